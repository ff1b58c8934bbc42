def nw_t0 : List Cond := [u_lay RX0 TX0 0, u_lay RX0 TX0 1, u_lay RX0 TX0 2, u_lay RX0 TX0 3, u_lay RX1 TX1 0, u_lay RX1 TX1 1, u_lay RX2 TX2 0, u_lay RX2 TX2 1, u_lay RX2 TX2 2, u_lay RX3 TX3 0, u_lay RX3 TX3 1, u_lay RX4 TX4 0, u_lay RX4 TX4 1, u_lay RX4 TX4 2, u_lay RX4 TX4 3, u_lay RX4 TX4 4, u_lay RX5 TX5 0, u_lay RX5 TX5 1, u_lay RX5 TX5 2, u_lay RX5 TX5 3, u_lay RX5 TX5 4, u_lay RX5 TX5 5, u_lay RX5 TX5 6, u_lay RX5 TX5 7, u_lay RX5 TX5 8, u_lay RX5 TX5 9, u_lay RX5 TX5 10, u_lay RX5 TX5 11, u_lay RX5 TX5 12, u_lay RX5 TX5 13, u_lay RX5 TX5 14, u_lay RX5 TX5 15]
def nw_t1 : List Cond := [u_lay RX5 TX5 16, u_lay RX6 TX6 0, u_lay RX6 TX6 1, u_lay RX6 TX6 2, u_lay RX6 TX6 3, u_lay RX6 TX6 4, u_lay RX6 TX6 5, u_lay RX6 TX6 6, u_lay RX6 TX6 7, u_lay RX6 TX6 8, u_lay RX6 TX6 9, u_lay RX6 TX6 10, u_lay RX6 TX6 11, u_lay RX6 TX6 12, u_lay RX6 TX6 13, u_lay RX6 TX6 14, u_lay RX7 TX7 0, u_lay RX7 TX7 1, u_lay RX7 TX7 2, u_lay RX7 TX7 3, u_lay RX7 TX7 4, u_lay RX7 TX7 5, u_lay RX7 TX7 6, u_lay RX7 TX7 7, u_lay RX7 TX7 8, u_lay RX7 TX7 9, u_lay RX7 TX7 10, u_lay RX7 TX7 11, u_lay RX7 TX7 12, u_lay RX7 TX7 13, u_lay RX7 TX7 14, u_lay RX7 TX7 15]
def nw_t2 : List Cond := [u_lay RX7 TX7 16, u_lay RX7 TX7 17, u_lay RX7 TX7 18, u_lay RX7 TX7 19, u_lay RX7 TX7 20, u_lay RX7 TX7 21, u_lay RX7 TX7 22, u_lay RX7 TX7 23, Cond.code yX1_init cX1_init 2 none, Cond.methodLink RX1 1 objectInit, Cond.instanceMethod objectInit, Cond.code objectInit ⟨#[0xb1]⟩ 1 none, Cond.fieldLink RX1 7 "PigNinths$Row" "size" "I", Cond.methodLink RX1 13 Lib.Math.max.name, Cond.static Lib.Math.max.name, Cond.initialized "java/lang/Math", Cond.code Lib.Math.max.name Lib.Math.max.code 2 (some .int), Cond.arrayClass .int, Cond.fieldLink RX1 19 "PigNinths$Row" "numbers" "[I", Cond.code yX0_init cX0_init 1 none, Cond.methodLink RX0 3 objectInit, Cond.classLink RX0 9 RX1, Cond.instantiable RX1 2, Cond.initialized RX1, Cond.fieldLink RX0 14 "PigNinths$Reader" "code" "LPigNinths$Row;", Cond.fieldLink RX0 20 "PigNinths$Reader" "bytes" "LPigNinths$Row;", Cond.fieldLink RX0 23 "PigNinths$Reader" "names" "I", Cond.fieldLink RX0 27 "PigNinths$Reader" "at" "I", Cond.methodLink RX0 11 yX1_init, Cond.instanceMethod yX1_init, Cond.code yX1_takeFrom cX1_takeFrom 2 none, Cond.methodLink RX1 23 Lib.Math.min.name]
def nw_t3 : List Cond := [Cond.static Lib.Math.min.name, Cond.code Lib.Math.min.name Lib.Math.min.code 2 (some .int), Cond.methodLink RX1 26 arraycopyName, Cond.native arraycopyName, Cond.static arraycopyName, Cond.initialized "java/lang/System", Cond.code yX1_at cX1_at 2 (some .int), Cond.code yX0_sees cX0_sees 2 (some .boolean), Cond.fieldLink RX0 34 "PigNinths$Row" "size" "I", Cond.methodLink RX0 41 yX1_at, Cond.instanceMethod yX1_at, Cond.selects RX1 yX1_at yX1_at, Cond.code yX1_append cX1_append 2 none, Cond.code yX0_seesDigit cX0_seesDigit 1 (some .boolean), Cond.code yX0_number cX0_number 3 none, Cond.methodLink RX0 68 yX0_seesDigit, Cond.instanceMethod yX0_seesDigit, Cond.selects RX0 yX0_seesDigit yX0_seesDigit, Cond.initialized RX0, Cond.methodLink RX0 53 yX1_append, Cond.instanceMethod yX1_append, Cond.selects RX1 yX1_append yX1_append, Cond.code yX0_readsName cX0_readsName 2 (some .boolean), Cond.fieldLink RX0 81 "PigNinths$Reader" "NAMES_OF_USES" "[C", Cond.methodLink RX0 47 yX0_sees, Cond.instanceMethod yX0_sees, Cond.selects RX0 yX0_sees yX0_sees, Cond.methodLink RX0 62 yX0_multiplied, Cond.instanceMethod yX0_multiplied, Cond.selects RX0 yX0_multiplied yX0_multiplied, Cond.code yX0_both cX0_both 2 (some .boolean), Cond.methodLink RX0 56 yX0_compared]
def nw_t4 : List Cond := [Cond.instanceMethod yX0_compared, Cond.selects RX0 yX0_compared yX0_compared, Cond.code yX0_compared cX0_compared 3 (some .boolean), Cond.methodLink RX0 59 yX0_added, Cond.instanceMethod yX0_added, Cond.selects RX0 yX0_added yX0_added, Cond.code yX0_either cX0_either 2 (some .boolean), Cond.methodLink RX0 44 yX0_both, Cond.instanceMethod yX0_both, Cond.selects RX0 yX0_both yX0_both, Cond.code yX0_enclosed cX0_enclosed 2 (some .boolean), Cond.methodLink RX0 37 yX0_either, Cond.instanceMethod yX0_either, Cond.selects RX0 yX0_either yX0_either, Cond.code yX0_multiplied cX0_multiplied 3 (some .boolean), Cond.methodLink RX0 65 yX0_single, Cond.instanceMethod yX0_single, Cond.selects RX0 yX0_single yX0_single, Cond.code yX0_single cX0_single 2 (some .boolean), Cond.methodLink RX0 72 yX0_number, Cond.instanceMethod yX0_number, Cond.selects RX0 yX0_number yX0_number, Cond.methodLink RX0 75 yX0_readsName, Cond.instanceMethod yX0_readsName, Cond.selects RX0 yX0_readsName yX0_readsName, Cond.methodLink RX0 78 yX0_enclosed, Cond.instanceMethod yX0_enclosed, Cond.selects RX0 yX0_enclosed yX0_enclosed, Cond.code yX0_added cX0_added 3 (some .boolean), Cond.methodLink RX0 30 yX1_takeFrom, Cond.instanceMethod yX1_takeFrom, Cond.selects RX1 yX1_takeFrom yX1_takeFrom]
def nw_t5 : List Cond := [Cond.code yX0_read cX0_read 4 (some .int), Cond.code yX2_init cX2_init 1 none, Cond.methodLink RX2 3 objectInit, Cond.fieldLink RX2 9 "PigNinths$Sheet" "numbers" "[I", Cond.fieldLink RX2 15 "PigNinths$Sheet" "bits" "I", Cond.fieldLink RX2 19 "PigNinths$Sheet" "size" "I", Cond.code yX2_isMissing cX2_isMissing 1 (some .boolean), Cond.code yJ7_fill_53178 cJ7_fill_53178 4 none, Cond.code yX2_becomes cX2_becomes 3 none, Cond.methodLink RX2 22 Lib.Math.min.name, Cond.methodLink RX2 28 Lib.Math.max.name, Cond.methodLink RX2 31 yJ7_fill_53178, Cond.static yJ7_fill_53178, Cond.initialized RJ7, Cond.code yX2_at cX2_at 2 (some .int), Cond.code yX2_hold cX2_hold 4 none, Cond.code yX2_holdsPart cX2_holdsPart 3 (some .boolean), Cond.code yX2_startsWith cX2_startsWith 3 (some .boolean), Cond.code yX3_init cX3_init 1 none, Cond.methodLink RX3 3 objectInit, Cond.classLink RX3 9 RX1, Cond.fieldLink RX3 14 "PigNinths$Text" "code" "LPigNinths$Row;", Cond.fieldLink RX3 20 "PigNinths$Text" "stack" "[I", Cond.methodLink RX3 11 yX1_init, Cond.code yX3_isThere cX3_isThere 1 (some .boolean), Cond.fieldLink RX3 24 "PigNinths$Row" "size" "I", Cond.code yX3_named cX3_named 4 (some .int), Cond.code yX3_joined cX3_joined 3 (some .int), Cond.code yX3_value cX3_value 7 (some .int), Cond.methodLink RX3 28 yX1_at, Cond.methodLink RX3 32 yX3_named, Cond.static yX3_named]
def nw_t6 : List Cond := [Cond.initialized RX3, Cond.methodLink RX3 36 yX3_joined, Cond.static yX3_joined, Cond.code yX4_init cX4_init 1 none, Cond.methodLink RX4 3 objectInit, Cond.classLink RX4 9 RX1, Cond.fieldLink RX4 14 "PigNinths$Voices" "trace" "LPigNinths$Row;", Cond.fieldLink RX4 20 "PigNinths$Voices" "parted" "Z", Cond.fieldLink RX4 24 "PigNinths$Voices" "k" "I", Cond.fieldLink RX4 28 "PigNinths$Voices" "m" "I", Cond.fieldLink RX4 31 "PigNinths$Voices" "ownKind" "I", Cond.methodLink RX4 11 yX1_init, Cond.code yX4_partedBy cX4_partedBy 3 (some .int), Cond.methodLink RX4 41 yX4_from, Cond.instanceMethod yX4_from, Cond.selects RX4 yX4_from yX4_from, Cond.initialized RX4, Cond.code yX4_from cX4_from 8 (some .int), Cond.fieldLink RX4 49 "PigNinths$Voices" "BODIES" "[I", Cond.methodLink RX4 52 yX4_workedOut, Cond.instanceMethod yX4_workedOut, Cond.selects RX4 yX4_workedOut yX4_workedOut, Cond.code yX4_own cX4_own 4 (some .int), Cond.code yX4_workedOut cX4_workedOut 5 (some .int), Cond.methodLink RX4 55 yX1_append, Cond.methodLink RX4 37 yX4_own, Cond.instanceMethod yX4_own, Cond.selects RX4 yX4_own yX4_own, Cond.methodLink RX4 58 yX4_partedBy, Cond.instanceMethod yX4_partedBy, Cond.selects RX4 yX4_partedBy yX4_partedBy, Cond.methodLink RX4 62 yX4_above]
def nw_t7 : List Cond := [Cond.instanceMethod yX4_above, Cond.selects RX4 yX4_above yX4_above, Cond.code yX4_above cX4_above 5 (some .int), Cond.fieldLink RX4 34 "PigNinths$Row" "size" "I", Cond.code yX4_answer cX4_answer 6 (some .int), Cond.methodLink RX5 3 objectInit, Cond.fieldLink RX5 9 "PigNinths$World" "owner" "[I", Cond.fieldLink RX5 15 "PigNinths$World" "under" "[I", Cond.fieldLink RX5 18 "PigNinths$World" "kind" "[I", Cond.fieldLink RX5 21 "PigNinths$World" "mark" "[I", Cond.fieldLink RX5 24 "PigNinths$World" "purse" "[I", Cond.fieldLink RX5 27 "PigNinths$World" "hid" "[I", Cond.fieldLink RX5 30 "PigNinths$World" "turn" "[I", Cond.fieldLink RX5 33 "PigNinths$World" "leash" "[I", Cond.classLink RX5 36 RX3, Cond.instantiable RX3 2, Cond.fieldLink RX5 39 "PigNinths$World" "feeding" "LPigNinths$Text;", Cond.fieldLink RX5 43 "PigNinths$World" "nose" "LPigNinths$Text;", Cond.fieldLink RX5 46 "PigNinths$World" "rain" "I", Cond.fieldLink RX5 50 "PigNinths$World" "place" "I", Cond.fieldLink RX5 53 "PigNinths$World" "hunger" "I", Cond.fieldLink RX5 56 "PigNinths$World" "day" "I", Cond.fieldLink RX5 59 "PigNinths$World" "drawn" "I", Cond.fieldLink RX5 62 "PigNinths$World" "smell" "[I", Cond.fieldLink RX5 65 "PigNinths$World" "dug" "[I", Cond.instanceMethod yX3_init, Cond.methodLink RX5 68 yJ7_fill_53178, Cond.code yX5_init cX5_init 2 none, Cond.code yX5_takeWoodFrom cX5_takeWoodFrom 2 none, Cond.methodLink RX5 74 arraycopyName, Cond.fieldLink RX5 80 "PigNinths$Text" "code" "LPigNinths$Row;", Cond.methodLink RX5 84 yX1_takeFrom]
def nw_t8 : List Cond := [Cond.methodLink RX5 90 yX5_takeWoodFrom, Cond.instanceMethod yX5_takeWoodFrom, Cond.selects RX5 yX5_takeWoodFrom yX5_takeWoodFrom, Cond.initialized RX5, Cond.code yX5_takeFrom cX5_takeFrom 2 none, Cond.code yX5_textOf cX5_textOf 2 (some (.object "PigNinths$Text")), Cond.code yX5_within4 cX5_within4 1 (some .int), Cond.methodLink RX5 120 Lib.Math.min.name, Cond.methodLink RX5 152 Lib.Math.max.name, Cond.code yX5_ofFarmer cX5_ofFarmer 3 (some .int), Cond.methodLink RX5 94 yX5_within4, Cond.static yX5_within4, Cond.code yX5_changeTurns cX5_changeTurns 4 none, Cond.code yX5_whoHasIt cX5_whoHasIt 3 (some .int), Cond.code yX5_richestOak cX5_richestOak 3 (some .int), Cond.code yX5_dugFor cX5_dugFor 4 (some .int), Cond.code yX5_drawRain cX5_drawRain 1 none, Cond.constant RX5 98 (1103515245), Cond.methodLink RX5 134 yX3_isThere, Cond.instanceMethod yX3_isThere, Cond.selects RX3 yX3_isThere yX3_isThere, Cond.methodLink RX5 138 yX3_value, Cond.instanceMethod yX3_value, Cond.selects RX3 yX3_value yX3_value, Cond.code yX5_smellOf cX5_smellOf 2 (some .int), Cond.methodLink RX5 125 yX5_smellOf, Cond.instanceMethod yX5_smellOf, Cond.selects RX5 yX5_smellOf yX5_smellOf, Cond.code yX5_morning cX5_morning 2 none, Cond.code yX5_beside cX5_beside 2 (some .int), Cond.code yX5_bestSmell cX5_bestSmell 5 (some .int), Cond.methodLink RX5 142 Lib.Math.abs.name]
def nw_t9 : List Cond := [Cond.static Lib.Math.abs.name, Cond.code Lib.Math.abs.name Lib.Math.abs.code 1 (some .int), Cond.methodLink RX5 128 yX5_beside, Cond.static yX5_beside, Cond.methodLink RX5 131 yX5_bestSmell, Cond.instanceMethod yX5_bestSmell, Cond.selects RX5 yX5_bestSmell yX5_bestSmell, Cond.code yX5_hours cX5_hours 6 (some .int), Cond.code yX5_toPurse cX5_toPurse 3 none, Cond.constant RX5 148 (99999999), Cond.code yX5_partOut cX5_partOut 7 none, Cond.methodLink RX5 145 yX5_toPurse, Cond.instanceMethod yX5_toPurse, Cond.selects RX5 yX5_toPurse yX5_toPurse, Cond.code yX5_held cX5_held 1 (some .int), Cond.methodLink RX5 149 yX5_held, Cond.static yX5_held, Cond.code yX5_feedsOf cX5_feedsOf 4 (some .int), Cond.methodLink RX5 102 yX5_whoHasIt, Cond.instanceMethod yX5_whoHasIt, Cond.selects RX5 yX5_whoHasIt yX5_whoHasIt, Cond.methodLink RX5 106 yX5_morning, Cond.instanceMethod yX5_morning, Cond.selects RX5 yX5_morning yX5_morning, Cond.methodLink RX5 109 yX5_hours, Cond.instanceMethod yX5_hours, Cond.selects RX5 yX5_hours yX5_hours, Cond.methodLink RX5 112 yX5_partOut, Cond.instanceMethod yX5_partOut, Cond.selects RX5 yX5_partOut yX5_partOut, Cond.methodLink RX5 116 yX5_feedsOf, Cond.instanceMethod yX5_feedsOf]
def nw_t10 : List Cond := [Cond.selects RX5 yX5_feedsOf yX5_feedsOf, Cond.code yX5_oneDay cX5_oneDay 4 (some .int), Cond.methodLink RX5 99 yX5_oneDay, Cond.instanceMethod yX5_oneDay, Cond.selects RX5 yX5_oneDay yX5_oneDay, Cond.code yX5_goOn cX5_goOn 4 (some .int), Cond.methodLink RX6 1 objectInit, Cond.classLink RX6 7 RX5, Cond.instantiable RX5 17, Cond.fieldLink RX6 10 "PigNinths" "now" "LPigNinths$World;", Cond.classLink RX6 16 RX1, Cond.fieldLink RX6 21 "PigNinths" "tape" "LPigNinths$Row;", Cond.fieldLink RX6 25 "PigNinths" "waiting" "LPigNinths$Row;", Cond.fieldLink RX6 28 "PigNinths" "keptWorld" "LPigNinths$World;", Cond.fieldLink RX6 31 "PigNinths" "keptTape" "LPigNinths$Row;", Cond.fieldLink RX6 34 "PigNinths" "keptWaiting" "LPigNinths$Row;", Cond.fieldLink RX6 37 "PigNinths" "images" "I", Cond.fieldLink RX6 41 "PigNinths" "side" "LPigNinths$World;", Cond.fieldLink RX6 44 "PigNinths" "trial" "LPigNinths$World;", Cond.fieldLink RX6 47 "PigNinths" "best" "[I", Cond.fieldLink RX6 51 "PigNinths" "finds" "[I", Cond.classLink RX6 54 RX0, Cond.instantiable RX0 4, Cond.fieldLink RX6 57 "PigNinths" "reader" "LPigNinths$Reader;", Cond.classLink RX6 61 RX4, Cond.instantiable RX4 5, Cond.fieldLink RX6 64 "PigNinths" "voices" "LPigNinths$Voices;", Cond.classLink RX6 68 RX2, Cond.fieldLink RX6 70 "PigNinths" "sheets" "[LPigNinths$Sheet;", Cond.fieldLink RX6 74 "PigNinths" "errors" "[I", Cond.instantiable RX2 3, Cond.initialized RX2]
def nw_t11 : List Cond := [Cond.methodLink RX6 9 yX5_init, Cond.instanceMethod yX5_init, Cond.methodLink RX6 18 yX1_init, Cond.instanceMethod yX0_init, Cond.instanceMethod yX4_init, Cond.instanceMethod yX2_init, Cond.code yX6_init cX6_init 2 none, Cond.code yX6_within cX6_within 3 (some .boolean), Cond.code yX6_isOak cX6_isOak 1 (some .boolean), Cond.methodLink RX6 82 yX6_within, Cond.static yX6_within, Cond.initialized RX6, Cond.code yX6_error cX6_error 2 (some .int), Cond.constant RX6 260 (-1000000000), Cond.code yX6_isFarmer cX6_isFarmer 1 (some .boolean), Cond.code yX6_oak cX6_oak 5 (some .int), Cond.fieldLink RX6 93 "PigNinths$World" "owner" "[I", Cond.fieldLink RX6 96 "PigNinths$World" "under" "[I", Cond.methodLink RX6 78 yX6_isOak, Cond.static yX6_isOak, Cond.methodLink RX6 86 yX6_error, Cond.instanceMethod yX6_error, Cond.selects RX6 yX6_error yX6_error, Cond.methodLink RX6 90 yX6_isFarmer, Cond.static yX6_isFarmer, Cond.methodLink RX6 99 yX5_smellOf, Cond.code yX6_oakIs cX6_oakIs 3 (some .int), Cond.code yX6_rain cX6_rain 3 (some .int), Cond.fieldLink RX6 102 "PigNinths$World" "rain" "I", Cond.code yX6_farmer cX6_farmer 4 (some .int), Cond.fieldLink RX6 105 "PigNinths$World" "kind" "[I", Cond.fieldLink RX6 108 "PigNinths$World" "mark" "[I"]
def nw_t12 : List Cond := [Cond.methodLink RX6 111 yX5_ofFarmer, Cond.instanceMethod yX5_ofFarmer, Cond.selects RX5 yX5_ofFarmer yX5_ofFarmer, Cond.code yX6_farmerIs cX6_farmerIs 3 (some .int), Cond.code yX6_isOfKind cX6_isOfKind 4 (some .boolean), Cond.fieldLink RX6 280 "PigNinths" "ABOVE" "[I", Cond.code yX6_as cX6_as 3 (some .int), Cond.methodLink RX6 115 yX6_isOfKind, Cond.static yX6_isOfKind, Cond.code yX6_trade cX6_trade 3 (some .int), Cond.fieldLink RX6 123 "PigNinths$World" "turn" "[I", Cond.methodLink RX6 119 yX5_changeTurns, Cond.instanceMethod yX5_changeTurns, Cond.selects RX5 yX5_changeTurns yX5_changeTurns, Cond.code yX6_leash cX6_leash 5 (some .int), Cond.fieldLink RX6 126 "PigNinths$World" "leash" "[I", Cond.code yX6_pig cX6_pig 4 (some .int), Cond.fieldLink RX6 129 "PigNinths$World" "place" "I", Cond.fieldLink RX6 132 "PigNinths$World" "hunger" "I", Cond.code yX6_feed cX6_feed 5 (some .int), Cond.fieldLink RX6 135 "PigNinths$Row" "size" "I", Cond.methodLink RX6 138 yX1_append, Cond.fieldLink RX6 149 "PigNinths$Text" "code" "LPigNinths$Row;", Cond.fieldLink RX6 154 "PigNinths$Reader" "code" "LPigNinths$Row;", Cond.methodLink RX6 141 yX0_read, Cond.instanceMethod yX0_read, Cond.selects RX0 yX0_read yX0_read, Cond.methodLink RX6 145 yX5_textOf, Cond.instanceMethod yX5_textOf, Cond.selects RX5 yX5_textOf yX5_textOf, Cond.methodLink RX6 155 yX1_takeFrom, Cond.code yX6_text cX6_text 3 (some .int)]
def nw_t13 : List Cond := [Cond.methodLink RX6 159 yX3_isThere, Cond.code yX6_untell cX6_untell 4 (some .int), Cond.fieldLink RX6 163 "PigNinths$World" "day" "I", Cond.methodLink RX6 166 yX5_goOn, Cond.instanceMethod yX5_goOn, Cond.selects RX5 yX5_goOn yX5_goOn, Cond.code yX6_days cX6_days 2 (some .int), Cond.methodLink RX6 169 yX5_drawRain, Cond.instanceMethod yX5_drawRain, Cond.selects RX5 yX5_drawRain yX5_drawRain, Cond.methodLink RX6 172 yX5_oneDay, Cond.code yX6_draws cX6_draws 4 (some .int), Cond.code yX6_seed cX6_seed 3 (some .int), Cond.fieldLink RX6 175 "PigNinths$World" "drawn" "I", Cond.methodLink RX6 178 yX5_takeFrom, Cond.instanceMethod yX5_takeFrom, Cond.selects RX5 yX5_takeFrom yX5_takeFrom, Cond.code yX6_then cX6_then 4 (some .int), Cond.code yX6_sum cX6_sum 6 (some .int), Cond.methodLink RX6 181 yX6_sum, Cond.static yX6_sum, Cond.methodLink RX6 185 yX5_richestOak, Cond.instanceMethod yX5_richestOak, Cond.selects RX5 yX5_richestOak yX5_richestOak, Cond.code yX6_ahead cX6_ahead 3 (some .int), Cond.fieldLink RX6 267 "PigNinths" "ROW_PLACES" "[I", Cond.methodLink RX6 246 arraycopyName, Cond.methodLink RX6 261 yX5_morning, Cond.methodLink RX6 192 yX5_whoHasIt, Cond.methodLink RX6 264 yX5_takeWoodFrom, Cond.methodLink RX6 270 yX5_hours, Cond.code yX6_seekLeash cX6_seekLeash 4 none]
def nw_t14 : List Cond := [Cond.methodLink RX6 189 yX6_seekLeash, Cond.instanceMethod yX6_seekLeash, Cond.selects RX6 yX6_seekLeash yX6_seekLeash, Cond.code yX6_bestLeash cX6_bestLeash 2 (some .int), Cond.fieldLink RX6 195 "PigNinths$World" "purse" "[I", Cond.methodLink RX6 198 Lib.Math.max.name, Cond.code yX6_bestFeed cX6_bestFeed 9 (some .int), Cond.code yX6_gain cX6_gain 3 (some .int), Cond.code yX6_bestTrade cX6_bestTrade 7 (some .int), Cond.methodLink RX6 203 yX5_dugFor, Cond.instanceMethod yX5_dugFor, Cond.selects RX5 yX5_dugFor yX5_dugFor, Cond.code yX6_share cX6_share 9 (some .int), Cond.code yX6_isSheet cX6_isSheet 1 (some .boolean), Cond.methodLink RX6 273 yX5_partOut, Cond.methodLink RX6 276 yX2_startsWith, Cond.instanceMethod yX2_startsWith, Cond.selects RX2 yX2_startsWith yX2_startsWith, Cond.code yX6_leastMark cX6_leastMark 6 (some .int), Cond.fieldLink RX6 212 "PigNinths$Sheet" "size" "I", Cond.methodLink RX6 206 yX6_isSheet, Cond.static yX6_isSheet, Cond.methodLink RX6 209 yX2_isMissing, Cond.instanceMethod yX2_isMissing, Cond.selects RX2 yX2_isMissing yX2_isMissing, Cond.methodLink RX6 213 yX6_leastMark, Cond.instanceMethod yX6_leastMark, Cond.selects RX6 yX6_leastMark yX6_leastMark, Cond.code yX6_whoHid cX6_whoHid 10 (some .int), Cond.fieldLink RX6 221 "PigNinths$Voices" "parted" "Z", Cond.methodLink RX6 217 yX4_answer, Cond.instanceMethod yX4_answer]
def nw_t15 : List Cond := [Cond.selects RX4 yX4_answer yX4_answer, Cond.code yX6_voice cX6_voice 5 (some .int), Cond.code yX6_body cX6_body 2 (some .int), Cond.fieldLink RX6 225 "PigNinths$Voices" "trace" "LPigNinths$Row;", Cond.methodLink RX6 228 yX1_at, Cond.methodLink RX6 231 yX2_becomes, Cond.instanceMethod yX2_becomes, Cond.selects RX2 yX2_becomes yX2_becomes, Cond.code yX6_sheet cX6_sheet 4 (some .int), Cond.methodLink RX6 234 yX2_hold, Cond.instanceMethod yX2_hold, Cond.selects RX2 yX2_hold yX2_hold, Cond.code yX6_put cX6_put 5 (some .int), Cond.fieldLink RX6 237 "PigNinths$Sheet" "bits" "I", Cond.fieldLink RX6 243 "PigNinths$Sheet" "numbers" "[I", Cond.methodLink RX6 240 yX2_holdsPart, Cond.instanceMethod yX2_holdsPart, Cond.selects RX2 yX2_holdsPart yX2_holdsPart, Cond.code yX6_move cX6_move 8 (some .int), Cond.methodLink RX6 252 Lib.Math.min.name, Cond.methodLink RX6 255 yX2_at, Cond.instanceMethod yX2_at, Cond.selects RX2 yX2_at yX2_at, Cond.code yX6_unders cX6_unders 5 (some .int), Cond.code yX6_judge cX6_judge 4 (some .int), Cond.code yX6_image cX6_image 1 (some .int), Cond.code yX6_restore cX6_restore 1 (some .int), Cond.code yX6_tell cX6_tell 2 (some .int), Cond.fieldLink RX6 256 "PigNinths$Row" "numbers" "[I", Cond.code yX6_check cX6_check 3 (some .int), Cond.fieldLink RX6 257 "PigNinths$World" "hid" "[I", Cond.code yX6_count cX6_count 2 (some .int)]
def nw_t16 : List Cond := [Cond.code yX6_told cX6_told 2 (some .int), Cond.code yX7_lays1 cX7_lays1 4 none, Cond.fieldLink RX7 7 "PigNinthsModel" "s" "[I", Cond.methodLink RX7 1 objectInit, Cond.fieldLink RX7 13 "PigNinthsModel" "kept" "[I", Cond.fieldLink RX7 16 "PigNinthsModel" "put" "[I", Cond.fieldLink RX7 19 "PigNinthsModel" "errors" "[I", Cond.fieldLink RX7 22 "PigNinthsModel" "step" "[I", Cond.fieldLink RX7 25 "PigNinthsModel" "named" "[I", Cond.fieldLink RX7 28 "PigNinthsModel" "pile" "[I", Cond.fieldLink RX7 31 "PigNinthsModel" "dug" "[I", Cond.fieldLink RX7 34 "PigNinthsModel" "fedToday" "I", Cond.fieldLink RX7 38 "PigNinthsModel" "plain" "[I", Cond.fieldLink RX7 41 "PigNinthsModel" "traded" "[I", Cond.fieldLink RX7 44 "PigNinthsModel" "trace" "[I", Cond.fieldLink RX7 47 "PigNinthsModel" "bits" "[I", Cond.fieldLink RX7 50 "PigNinthsModel" "sizes" "[I", Cond.fieldLink RX7 53 "PigNinthsModel" "number" "[I", Cond.fieldLink RX7 56 "PigNinthsModel" "aside" "[I", Cond.methodLink RX7 59 yX7_lays1, Cond.instanceMethod yX7_lays1, Cond.selects RX7 yX7_lays1 yX7_lays1, Cond.initialized RX7, Cond.code yX7_init cX7_init 3 none, Cond.code yX7_error cX7_error 2 (some .int), Cond.constant RX7 63 (-1000000000), Cond.code yX7_in cX7_in 3 (some .boolean), Cond.code yX7_held cX7_held 3 (some .int), Cond.code yX7_carry cX7_carry 4 none, Cond.code yX7_layDown cX7_layDown 1 none, Cond.methodLink RX7 64 yX7_carry, Cond.static yX7_carry]
def nw_t17 : List Cond := [Cond.code yX7_layBack cX7_layBack 1 none, Cond.code yX7_isOak cX7_isOak 1 (some .boolean), Cond.methodLink RX7 68 yX7_in, Cond.static yX7_in, Cond.code yX7_isFarmer cX7_isFarmer 1 (some .boolean), Cond.code yX7_its cX7_its 3 (some .int), Cond.code yX7_change1 cX7_change1 4 (some .int), Cond.code yX7_allOf cX7_allOf 4 (some .int), Cond.methodLink RX7 72 yX7_its, Cond.instanceMethod yX7_its, Cond.selects RX7 yX7_its yX7_its, Cond.code yX7_allUnder cX7_allUnder 3 (some .int), Cond.code yX7_feed cX7_feed 5 (some .int), Cond.constantLong RX7 80 (255), Cond.methodLink RX7 76 yX7_error, Cond.instanceMethod yX7_error, Cond.selects RX7 yX7_error yX7_error, Cond.code yX7_look cX7_look 1 (some .int), Cond.fieldLink RX7 82 "PigNinthsModel" "at" "I", Cond.code yX7_isName cX7_isName 2 (some .boolean), Cond.fieldLink RX7 85 "PigNinthsModel" "use" "I", Cond.code yX7_step1 cX7_step1 3 none, Cond.fieldLink RX7 88 "PigNinthsModel" "steps" "I", Cond.code yX7_opens cX7_opens 1 (some .boolean), Cond.fieldLink RX7 115 "PigNinthsModel" "open" "I", Cond.methodLink RX7 103 yX7_compared, Cond.instanceMethod yX7_compared, Cond.selects RX7 yX7_compared yX7_compared, Cond.methodLink RX7 95 yX7_look, Cond.instanceMethod yX7_look, Cond.selects RX7 yX7_look yX7_look, Cond.methodLink RX7 99 yX7_step1]
def nw_t18 : List Cond := [Cond.instanceMethod yX7_step1, Cond.selects RX7 yX7_step1 yX7_step1, Cond.code yX7_compared cX7_compared 2 (some .boolean), Cond.methodLink RX7 106 yX7_sum, Cond.instanceMethod yX7_sum, Cond.selects RX7 yX7_sum yX7_sum, Cond.code yX7_one cX7_one 4 (some .boolean), Cond.methodLink RX7 118 yX7_isName, Cond.instanceMethod yX7_isName, Cond.selects RX7 yX7_isName yX7_isName, Cond.methodLink RX7 122 yX7_opens, Cond.instanceMethod yX7_opens, Cond.selects RX7 yX7_opens yX7_opens, Cond.methodLink RX7 112 yX7_one, Cond.instanceMethod yX7_one, Cond.selects RX7 yX7_one yX7_one, Cond.methodLink RX7 125 yX7_whole, Cond.instanceMethod yX7_whole, Cond.selects RX7 yX7_whole yX7_whole, Cond.code yX7_product cX7_product 2 (some .boolean), Cond.code yX7_sum cX7_sum 2 (some .boolean), Cond.methodLink RX7 109 yX7_product, Cond.instanceMethod yX7_product, Cond.selects RX7 yX7_product yX7_product, Cond.code yX7_whole cX7_whole 1 (some .boolean), Cond.methodLink RX7 91 yX7_both, Cond.instanceMethod yX7_both, Cond.selects RX7 yX7_both yX7_both, Cond.code yX7_both cX7_both 1 (some .boolean), Cond.code yX7_hasText cX7_hasText 2 (some .boolean), Cond.code yX7_text cX7_text 5 (some .int), Cond.code yX7_untell cX7_untell 3 (some .int)]
def nw_t19 : List Cond := [Cond.methodLink RX7 128 yX7_hasText, Cond.instanceMethod yX7_hasText, Cond.selects RX7 yX7_hasText yX7_hasText, Cond.code yX7_joined cX7_joined 3 (some .int), Cond.code yX7_worked cX7_worked 7 (some .int), Cond.methodLink RX7 131 yX7_joined, Cond.static yX7_joined, Cond.code yX7_feedsTold cX7_feedsTold 3 (some .int), Cond.methodLink RX7 135 yX7_worked, Cond.instanceMethod yX7_worked, Cond.selects RX7 yX7_worked yX7_worked, Cond.methodLink RX7 138 yX7_feedsTold, Cond.instanceMethod yX7_feedsTold, Cond.selects RX7 yX7_feedsTold yX7_feedsTold, Cond.methodLink RX7 141 yX7_held, Cond.static yX7_held, Cond.code yX7_feeds cX7_feeds 5 (some .int), Cond.code yX7_hides cX7_hides 3 (some .int), Cond.code yX7_smell cX7_smell 2 (some .int), Cond.code yX7_next cX7_next 2 (some .int), Cond.code yX7_bySmell cX7_bySmell 6 (some .int), Cond.methodLink RX7 144 yX7_smell, Cond.instanceMethod yX7_smell, Cond.selects RX7 yX7_smell yX7_smell, Cond.methodLink RX7 147 yX7_next, Cond.static yX7_next, Cond.code yX7_whoHas cX7_whoHas 2 (some .int), Cond.methodLink RX7 150 yX7_bySmell, Cond.instanceMethod yX7_bySmell, Cond.selects RX7 yX7_bySmell yX7_bySmell, Cond.code yX7_digs cX7_digs 7 (some .int), Cond.code yX7_gets cX7_gets 3 none]
def nw_t20 : List Cond := [Cond.constant RX7 153 (99999999), Cond.methodLink RX7 154 yX7_whoHas, Cond.instanceMethod yX7_whoHas, Cond.selects RX7 yX7_whoHas yX7_whoHas, Cond.methodLink RX7 157 yX7_digs, Cond.instanceMethod yX7_digs, Cond.selects RX7 yX7_digs yX7_digs, Cond.methodLink RX7 160 yX7_hides, Cond.instanceMethod yX7_hides, Cond.selects RX7 yX7_hides yX7_hides, Cond.methodLink RX7 163 yX7_gets, Cond.instanceMethod yX7_gets, Cond.selects RX7 yX7_gets yX7_gets, Cond.methodLink RX7 166 yX7_feeds, Cond.instanceMethod yX7_feeds, Cond.selects RX7 yX7_feeds yX7_feeds, Cond.code yX7_day cX7_day 6 (some .int), Cond.methodLink RX7 169 yX7_day, Cond.instanceMethod yX7_day, Cond.selects RX7 yX7_day yX7_day, Cond.code yX7_go cX7_go 4 (some .int), Cond.code yX7_oak cX7_oak 4 (some .int), Cond.methodLink RX7 172 yX7_isOak, Cond.static yX7_isOak, Cond.methodLink RX7 175 yX7_change1, Cond.instanceMethod yX7_change1, Cond.selects RX7 yX7_change1 yX7_change1, Cond.code yX7_oakIs cX7_oakIs 3 (some .int), Cond.code yX7_rain cX7_rain 2 (some .int), Cond.code yX7_farmer cX7_farmer 4 (some .int), Cond.methodLink RX7 178 yX7_isFarmer, Cond.static yX7_isFarmer]
def nw_t21 : List Cond := [Cond.code yX7_farmerIs cX7_farmerIs 3 (some .int), Cond.code yX7_isUnder cX7_isUnder 2 (some .boolean), Cond.code yX7_as cX7_as 3 (some .int), Cond.methodLink RX7 181 yX7_isUnder, Cond.static yX7_isUnder, Cond.code yX7_trades cX7_trades 4 none, Cond.methodLink RX7 185 yX7_trades, Cond.instanceMethod yX7_trades, Cond.selects RX7 yX7_trades yX7_trades, Cond.code yX7_trade cX7_trade 3 (some .int), Cond.code yX7_leash cX7_leash 4 (some .int), Cond.code yX7_pig cX7_pig 3 (some .int), Cond.code yX7_whyNotDays cX7_whyNotDays 2 (some .int), Cond.methodLink RX7 188 yX7_whyNotDays, Cond.instanceMethod yX7_whyNotDays, Cond.selects RX7 yX7_whyNotDays yX7_whyNotDays, Cond.methodLink RX7 191 yX7_go, Cond.instanceMethod yX7_go, Cond.selects RX7 yX7_go yX7_go, Cond.code yX7_days cX7_days 3 (some .int), Cond.code yX7_draw cX7_draw 1 (some .int), Cond.constant RX7 194 (1103515245), Cond.methodLink RX7 195 yX7_draw, Cond.instanceMethod yX7_draw, Cond.selects RX7 yX7_draw yX7_draw, Cond.code yX7_draws cX7_draws 5 (some .int), Cond.code yX7_seed cX7_seed 2 (some .int), Cond.methodLink RX7 198 yX7_layDown, Cond.instanceMethod yX7_layDown, Cond.selects RX7 yX7_layDown yX7_layDown, Cond.methodLink RX7 201 yX7_layBack, Cond.instanceMethod yX7_layBack]
def nw_t22 : List Cond := [Cond.selects RX7 yX7_layBack yX7_layBack, Cond.code yX7_then cX7_then 6 (some .int), Cond.code yX7_map cX7_map 3 (some .int), Cond.methodLink RX7 204 yX7_allUnder, Cond.instanceMethod yX7_allUnder, Cond.selects RX7 yX7_allUnder yX7_allUnder, Cond.methodLink RX7 207 yX7_map, Cond.instanceMethod yX7_map, Cond.selects RX7 yX7_map yX7_map, Cond.code yX7_ahead cX7_ahead 5 (some .int), Cond.code yX7_bestLeash cX7_bestLeash 8 (some .int), Cond.methodLink RX7 210 yX7_allOf, Cond.instanceMethod yX7_allOf, Cond.selects RX7 yX7_allOf yX7_allOf, Cond.code yX7_bestFeed cX7_bestFeed 10 (some .int), Cond.code yX7_behind cX7_behind 4 none, Cond.methodLink RX7 213 yX7_behind, Cond.instanceMethod yX7_behind, Cond.selects RX7 yX7_behind yX7_behind, Cond.code yX7_behindTrade cX7_behindTrade 3 none, Cond.methodLink RX7 217 yX7_behindTrade, Cond.instanceMethod yX7_behindTrade, Cond.selects RX7 yX7_behindTrade yX7_behindTrade, Cond.code yX7_gain cX7_gain 3 (some .int), Cond.code yX7_bestTrade cX7_bestTrade 7 (some .int), Cond.code yX7_share cX7_share 10 (some .int), Cond.code yX7_explains cX7_explains 8 (some .boolean), Cond.code yX7_isSheet cX7_isSheet 1 (some .boolean), Cond.methodLink RX7 220 yX7_isSheet, Cond.static yX7_isSheet, Cond.methodLink RX7 223 yX7_explains, Cond.instanceMethod yX7_explains]
def nw_t23 : List Cond := [Cond.selects RX7 yX7_explains yX7_explains, Cond.code yX7_whoHid cX7_whoHid 9 (some .int), Cond.code yX7_begins cX7_begins 2 none, Cond.fieldLink RX7 227 "PigNinthsModel" "traced" "I", Cond.code yX7_above cX7_above 1 (some .int), Cond.code yX7_kindNow cX7_kindNow 1 (some .int), Cond.fieldLink RX7 230 "PigNinthsModel" "speaks" "I", Cond.code yX7_mNow cX7_mNow 1 (some .int), Cond.code yX7_leadsAs cX7_leadsAs 3 (some .int), Cond.methodLink RX7 233 yX7_begins, Cond.instanceMethod yX7_begins, Cond.selects RX7 yX7_begins yX7_begins, Cond.methodLink RX7 237 yX7_above, Cond.static yX7_above, Cond.methodLink RX7 240 yX7_leadsAs, Cond.instanceMethod yX7_leadsAs, Cond.selects RX7 yX7_leadsAs yX7_leadsAs, Cond.methodLink RX7 243 yX7_kindNow, Cond.instanceMethod yX7_kindNow, Cond.selects RX7 yX7_kindNow yX7_kindNow, Cond.methodLink RX7 246 yX7_feedsAs, Cond.instanceMethod yX7_feedsAs, Cond.selects RX7 yX7_feedsAs yX7_feedsAs, Cond.methodLink RX7 249 yX7_mNow, Cond.instanceMethod yX7_mNow, Cond.selects RX7 yX7_mNow yX7_mNow, Cond.code yX7_feedsAs cX7_feedsAs 3 (some .int), Cond.methodLink RX7 252 yX7_hidesAs, Cond.instanceMethod yX7_hidesAs, Cond.selects RX7 yX7_hidesAs yX7_hidesAs, Cond.code yX7_hidesAs cX7_hidesAs 3 (some .int), Cond.fieldLink RX7 255 "PigNinthsModel" "isParted" "Z"]
def nw_t24 : List Cond := [Cond.methodLink RX7 259 yX7_partsAs, Cond.instanceMethod yX7_partsAs, Cond.selects RX7 yX7_partsAs yX7_partsAs, Cond.code yX7_partsAs cX7_partsAs 5 (some .int), Cond.code yX7_voice cX7_voice 6 (some .int), Cond.code yX7_body cX7_body 2 (some .int), Cond.code yX7_sheet cX7_sheet 5 (some .int), Cond.code yX7_put cX7_put 5 (some .int), Cond.code yX7_move cX7_move 7 (some .int), Cond.code yX7_lacks cX7_lacks 2 (some .int), Cond.code yX7_unders cX7_unders 4 (some .int), Cond.methodLink RX7 262 yX7_lacks, Cond.instanceMethod yX7_lacks, Cond.selects RX7 yX7_lacks yX7_lacks, Cond.code yX7_judge cX7_judge 5 (some .int), Cond.code yX7_image cX7_image 1 (some .int), Cond.fieldLink RX7 265 "PigNinthsModel" "images" "I", Cond.code yX7_restore cX7_restore 1 (some .int), Cond.code yX7_tell cX7_tell 2 (some .int), Cond.code yX7_check cX7_check 4 (some .int), Cond.code yX7_count cX7_count 2 (some .int), Cond.code yX7_told cX7_told 2 (some .int), Cond.code yJ9_abs_0f7a4 cJ9_abs_0f7a4 1 (some .int), Cond.code yJ9_max_7cf53 cJ9_max_7cf53 2 (some .int), Cond.code yJ9_min_7cf53 cJ9_min_7cf53 2 (some .int), Cond.classLink RL 7 RX6, Cond.instantiable RX6 15, Cond.classLink RL 10 RX7, Cond.instantiable RX7 24, Cond.constantLong RL 52 (4294967295), Cond.methodLink RL 9 yX6_init, Cond.instanceMethod yX6_init]
def nw_t25 : List Cond := [Cond.methodLink RL 12 yX7_init, Cond.instanceMethod yX7_init, Cond.methodLink RL 13 yX6_oak, Cond.instanceMethod yX6_oak, Cond.selects RX6 yX6_oak yX6_oak, Cond.methodLink RL 17 yX7_oak, Cond.instanceMethod yX7_oak, Cond.selects RX7 yX7_oak yX7_oak, Cond.methodLink RL 18 yX6_oakIs, Cond.instanceMethod yX6_oakIs, Cond.selects RX6 yX6_oakIs yX6_oakIs, Cond.methodLink RL 22 yX7_oakIs, Cond.instanceMethod yX7_oakIs, Cond.selects RX7 yX7_oakIs yX7_oakIs, Cond.methodLink RL 23 yX6_rain, Cond.instanceMethod yX6_rain, Cond.selects RX6 yX6_rain yX6_rain, Cond.methodLink RL 27 yX7_rain, Cond.instanceMethod yX7_rain, Cond.selects RX7 yX7_rain yX7_rain, Cond.methodLink RL 28 yX6_farmer, Cond.instanceMethod yX6_farmer, Cond.selects RX6 yX6_farmer yX6_farmer, Cond.methodLink RL 31 yX7_farmer, Cond.instanceMethod yX7_farmer, Cond.selects RX7 yX7_farmer yX7_farmer, Cond.methodLink RL 32 yX6_farmerIs, Cond.instanceMethod yX6_farmerIs, Cond.selects RX6 yX6_farmerIs yX6_farmerIs, Cond.methodLink RL 35 yX7_farmerIs, Cond.instanceMethod yX7_farmerIs, Cond.selects RX7 yX7_farmerIs yX7_farmerIs]
def nw_t26 : List Cond := [Cond.methodLink RL 36 yX6_as, Cond.instanceMethod yX6_as, Cond.selects RX6 yX6_as yX6_as, Cond.methodLink RL 39 yX7_as, Cond.instanceMethod yX7_as, Cond.selects RX7 yX7_as yX7_as, Cond.methodLink RL 40 yX6_trade, Cond.instanceMethod yX6_trade, Cond.selects RX6 yX6_trade yX6_trade, Cond.methodLink RL 43 yX7_trade, Cond.instanceMethod yX7_trade, Cond.selects RX7 yX7_trade yX7_trade, Cond.methodLink RL 44 yX6_leash, Cond.instanceMethod yX6_leash, Cond.selects RX6 yX6_leash yX6_leash, Cond.methodLink RL 47 yX7_leash, Cond.instanceMethod yX7_leash, Cond.selects RX7 yX7_leash yX7_leash, Cond.methodLink RL 48 yX6_pig, Cond.instanceMethod yX6_pig, Cond.selects RX6 yX6_pig yX6_pig, Cond.methodLink RL 51 yX7_pig, Cond.instanceMethod yX7_pig, Cond.selects RX7 yX7_pig yX7_pig, Cond.methodLink RL 54 yX6_feed, Cond.instanceMethod yX6_feed, Cond.selects RX6 yX6_feed yX6_feed, Cond.methodLink RL 58 yX7_feed, Cond.instanceMethod yX7_feed, Cond.selects RX7 yX7_feed yX7_feed, Cond.methodLink RL 59 yX6_text, Cond.instanceMethod yX6_text]
def nw_t27 : List Cond := [Cond.selects RX6 yX6_text yX6_text, Cond.methodLink RL 62 yX7_text, Cond.instanceMethod yX7_text, Cond.selects RX7 yX7_text yX7_text, Cond.methodLink RL 63 yX6_untell, Cond.instanceMethod yX6_untell, Cond.selects RX6 yX6_untell yX6_untell, Cond.methodLink RL 66 yX7_untell, Cond.instanceMethod yX7_untell, Cond.selects RX7 yX7_untell yX7_untell, Cond.methodLink RL 67 yX6_days, Cond.instanceMethod yX6_days, Cond.selects RX6 yX6_days yX6_days, Cond.methodLink RL 70 yX7_days, Cond.instanceMethod yX7_days, Cond.selects RX7 yX7_days yX7_days, Cond.methodLink RL 71 yX6_draws, Cond.instanceMethod yX6_draws, Cond.selects RX6 yX6_draws yX6_draws, Cond.methodLink RL 74 yX7_draws, Cond.instanceMethod yX7_draws, Cond.selects RX7 yX7_draws yX7_draws, Cond.methodLink RL 75 yX6_seed, Cond.instanceMethod yX6_seed, Cond.selects RX6 yX6_seed yX6_seed, Cond.methodLink RL 78 yX7_seed, Cond.instanceMethod yX7_seed, Cond.selects RX7 yX7_seed yX7_seed, Cond.methodLink RL 79 yX6_then, Cond.instanceMethod yX6_then, Cond.selects RX6 yX6_then yX6_then, Cond.methodLink RL 82 yX7_then]
def nw_t28 : List Cond := [Cond.instanceMethod yX7_then, Cond.selects RX7 yX7_then yX7_then, Cond.methodLink RL 83 yX6_ahead, Cond.instanceMethod yX6_ahead, Cond.selects RX6 yX6_ahead yX6_ahead, Cond.methodLink RL 86 yX7_ahead, Cond.instanceMethod yX7_ahead, Cond.selects RX7 yX7_ahead yX7_ahead, Cond.methodLink RL 87 yX6_bestLeash, Cond.instanceMethod yX6_bestLeash, Cond.selects RX6 yX6_bestLeash yX6_bestLeash, Cond.methodLink RL 90 yX7_bestLeash, Cond.instanceMethod yX7_bestLeash, Cond.selects RX7 yX7_bestLeash yX7_bestLeash, Cond.methodLink RL 91 yX6_bestFeed, Cond.instanceMethod yX6_bestFeed, Cond.selects RX6 yX6_bestFeed yX6_bestFeed, Cond.methodLink RL 94 yX7_bestFeed, Cond.instanceMethod yX7_bestFeed, Cond.selects RX7 yX7_bestFeed yX7_bestFeed, Cond.methodLink RL 95 yX6_gain, Cond.instanceMethod yX6_gain, Cond.selects RX6 yX6_gain yX6_gain, Cond.methodLink RL 98 yX7_gain, Cond.instanceMethod yX7_gain, Cond.selects RX7 yX7_gain yX7_gain, Cond.methodLink RL 99 yX6_bestTrade, Cond.instanceMethod yX6_bestTrade, Cond.selects RX6 yX6_bestTrade yX6_bestTrade, Cond.methodLink RL 103 yX7_bestTrade, Cond.instanceMethod yX7_bestTrade, Cond.selects RX7 yX7_bestTrade yX7_bestTrade]
def nw_t29 : List Cond := [Cond.methodLink RL 104 yX6_share, Cond.instanceMethod yX6_share, Cond.selects RX6 yX6_share yX6_share, Cond.methodLink RL 107 yX7_share, Cond.instanceMethod yX7_share, Cond.selects RX7 yX7_share yX7_share, Cond.methodLink RL 108 yX6_whoHid, Cond.instanceMethod yX6_whoHid, Cond.selects RX6 yX6_whoHid yX6_whoHid, Cond.methodLink RL 111 yX7_whoHid, Cond.instanceMethod yX7_whoHid, Cond.selects RX7 yX7_whoHid yX7_whoHid, Cond.methodLink RL 112 yX6_voice, Cond.instanceMethod yX6_voice, Cond.selects RX6 yX6_voice yX6_voice, Cond.methodLink RL 115 yX7_voice, Cond.instanceMethod yX7_voice, Cond.selects RX7 yX7_voice yX7_voice, Cond.methodLink RL 116 yX6_body, Cond.instanceMethod yX6_body, Cond.selects RX6 yX6_body yX6_body, Cond.methodLink RL 119 yX7_body, Cond.instanceMethod yX7_body, Cond.selects RX7 yX7_body yX7_body, Cond.methodLink RL 120 yX6_sheet, Cond.instanceMethod yX6_sheet, Cond.selects RX6 yX6_sheet yX6_sheet, Cond.methodLink RL 123 yX7_sheet, Cond.instanceMethod yX7_sheet, Cond.selects RX7 yX7_sheet yX7_sheet, Cond.methodLink RL 124 yX6_put, Cond.instanceMethod yX6_put]
def nw_t30 : List Cond := [Cond.selects RX6 yX6_put yX6_put, Cond.methodLink RL 127 yX7_put, Cond.instanceMethod yX7_put, Cond.selects RX7 yX7_put yX7_put, Cond.methodLink RL 128 yX6_move, Cond.instanceMethod yX6_move, Cond.selects RX6 yX6_move yX6_move, Cond.methodLink RL 132 yX7_move, Cond.instanceMethod yX7_move, Cond.selects RX7 yX7_move yX7_move, Cond.methodLink RL 133 yX6_unders, Cond.instanceMethod yX6_unders, Cond.selects RX6 yX6_unders yX6_unders, Cond.methodLink RL 136 yX7_unders, Cond.instanceMethod yX7_unders, Cond.selects RX7 yX7_unders yX7_unders, Cond.methodLink RL 137 yX6_judge, Cond.instanceMethod yX6_judge, Cond.selects RX6 yX6_judge yX6_judge, Cond.methodLink RL 140 yX7_judge, Cond.instanceMethod yX7_judge, Cond.selects RX7 yX7_judge yX7_judge, Cond.methodLink RL 141 yX6_image, Cond.instanceMethod yX6_image, Cond.selects RX6 yX6_image yX6_image, Cond.methodLink RL 144 yX7_image, Cond.instanceMethod yX7_image, Cond.selects RX7 yX7_image yX7_image, Cond.methodLink RL 145 yX6_restore, Cond.instanceMethod yX6_restore, Cond.selects RX6 yX6_restore yX6_restore, Cond.methodLink RL 148 yX7_restore]
def nw_t31 : List Cond := [Cond.instanceMethod yX7_restore, Cond.selects RX7 yX7_restore yX7_restore, Cond.methodLink RL 149 yX6_tell, Cond.instanceMethod yX6_tell, Cond.selects RX6 yX6_tell yX6_tell, Cond.methodLink RL 152 yX7_tell, Cond.instanceMethod yX7_tell, Cond.selects RX7 yX7_tell yX7_tell, Cond.methodLink RL 153 yX6_check, Cond.instanceMethod yX6_check, Cond.selects RX6 yX6_check yX6_check, Cond.methodLink RL 156 yX7_check, Cond.instanceMethod yX7_check, Cond.selects RX7 yX7_check yX7_check, Cond.methodLink RL 157 yX6_count, Cond.instanceMethod yX6_count, Cond.selects RX6 yX6_count yX6_count, Cond.methodLink RL 160 yX7_count, Cond.instanceMethod yX7_count, Cond.selects RX7 yX7_count yX7_count, Cond.methodLink RL 161 yX6_told, Cond.instanceMethod yX6_told, Cond.selects RX6 yX6_told yX6_told, Cond.methodLink RL 164 yX7_told, Cond.instanceMethod yX7_told, Cond.selects RX7 yX7_told yX7_told]
def nw_tt : List (List Cond) := [nw_t0, nw_t1, nw_t2, nw_t3, nw_t4, nw_t5, nw_t6, nw_t7, nw_t8, nw_t9, nw_t10, nw_t11, nw_t12, nw_t13, nw_t14, nw_t15, nw_t16, nw_t17, nw_t18, nw_t19, nw_t20, nw_t21, nw_t22, nw_t23, nw_t24, nw_t25, nw_t26, nw_t27, nw_t28, nw_t29, nw_t30, nw_t31]
def nw (i : Nat) : Cond := (nw_tt.getD (i / 32) []).getD (i % 32) (Cond.initialized "java/lang/Object")
def nw_mask (ps : List Nat) : Nat := ps.foldr (fun i m => m ||| 1 <<< i) 0
def nw_sub (ps qs : List Nat) : Bool := Nat.beq (nw_mask qs &&& nw_mask ps) (nw_mask qs)
theorem nw_mask_at (i : Nat) : ∀ ps : List Nat, (nw_mask ps).testBit i = decide (i ∈ ps)
  | [] => by simp [nw_mask]
  | p :: ps => by
    have h := nw_mask_at i ps
    show ((nw_mask ps) ||| 1 <<< p).testBit i = _
    rw [Nat.testBit_or, h, Nat.one_shiftLeft, Nat.testBit_two_pow]
    by_cases e : p = i
    · subst e; simp
    · have e' : ¬ i = p := fun q => e q.symm
      simp [e, e']
theorem nw_sub_of {ps qs : List Nat} (h : nw_sub ps qs = true) : ∀ i ∈ qs, i ∈ ps := by
  intro i hi
  have e : nw_mask qs &&& nw_mask ps = nw_mask qs := Nat.eq_of_beq_eq_true h
  have h1 : (nw_mask qs &&& nw_mask ps).testBit i = (nw_mask qs).testBit i := by rw [e]
  rw [Nat.testBit_and, nw_mask_at, nw_mask_at, decide_eq_true hi, Bool.true_and] at h1
  exact of_decide_eq_true h1
theorem nw_getD {α : Type} {p : α → Bool} {d : α} (hd : p d = true) : ∀ (l : List α) (k : Nat), l.all p = true → p (l.getD k d) = true
  | [], _, _ => by simpa using hd
  | a :: l, 0, h => by simpa using (List.all_eq_true.mp h a (List.mem_cons_self ..))
  | a :: l, k + 1, h => by
    have h' : l.all p = true := List.all_eq_true.mpr fun x hx => List.all_eq_true.mp h x (List.mem_cons_of_mem _ hx)
    simpa using nw_getD hd l k h'
theorem nw_good (i : Nat) : goodWord (nw i) = true :=
  nw_getD (by decide +kernel) _ _ (nw_getD (p := fun c : List Cond => c.all goodWord) (d := []) rfl nw_tt _ (by decide +kernel))
theorem nw_n : ([] : List Nat).map nw = [] := rfl
theorem nw_c {i : Nat} {ps : List Nat} {w : Cond} {ws : List Cond} (h : nw i = w) (t : ps.map nw = ws) : (i :: ps).map nw = w :: ws := by rw [List.map_cons, h, t]
theorem nw_a {ps qs : List Nat} {a b : List Cond} (h : ps.map nw = a) (t : qs.map nw = b) : (ps ++ qs).map nw = a ++ b := by rw [List.map_append, h, t]
theorem nw_in {ps : List Nat} {a : List Cond} {i : Nat} {w : Cond} (ha : ps.map nw = a) (h : nw i = w) (hi : (nw_mask ps).testBit i = true) : w ∈ a := by
  rw [nw_mask_at] at hi
  rw [← ha, ← h]
  exact List.mem_map_of_mem (of_decide_eq_true hi)
theorem nw_all {ps qs : List Nat} {a b : List Cond} (ha : ps.map nw = a) (hb : qs.map nw = b) (h : nw_sub ps qs = true) : ∀ w ∈ b, w ∈ a := by
  intro w hw
  rw [← hb] at hw
  obtain ⟨i, hi, e⟩ := List.mem_map.mp hw
  rw [← ha, ← e]
  exact List.mem_map_of_mem (nw_sub_of h i hi)
theorem nw_gi {ps qs : List Nat} {a b : List Cond} (ha : ps.map nw = a) (hb : qs.map nw = b) (h : nw_sub ps qs = true) : GoodIn a b := by
  intro w hw
  refine ⟨nw_all ha hb h w hw, ?_⟩
  rw [← hb] at hw
  obtain ⟨i, -, e⟩ := List.mem_map.mp hw
  exact good_of_word (e ▸ nw_good i)
theorem nw_gV {ps qs : List Nat} {A B : List Cond} {a b c d idx : Nat} {own C : String} {y : MethodName} (hA : ps.map nw = A) (ha : nw a = Cond.methodLink own idx y) (hb : nw b = Cond.instanceMethod y) (hc : nw c = Cond.selects C y y) (hd : nw d = Cond.initialized C) (hB : qs.map nw = B) (h : nw_sub ps (a :: b :: c :: d :: qs) = true) : GoodIn A (wsV own idx C y B) :=
  nw_gi hA (nw_c ha (nw_c hb (nw_c hc (nw_c hd hB)))) h
theorem nw_gS {ps qs : List Nat} {A B : List Cond} {a b c idx : Nat} {own : String} {y : MethodName} (hA : ps.map nw = A) (ha : nw a = Cond.methodLink own idx y) (hb : nw b = Cond.static y) (hc : nw c = Cond.initialized y.cls) (hB : qs.map nw = B) (h : nw_sub ps (a :: b :: c :: qs) = true) : GoodIn A (va_wsS own idx y B) :=
  nw_gi hA (nw_c ha (nw_c hb (nw_c hc hB))) h
theorem nwe_0 : nw 0 = u_lay RX0 TX0 0 := rfl
theorem nwe_1 : nw 1 = u_lay RX0 TX0 1 := rfl
theorem nwe_2 : nw 2 = u_lay RX0 TX0 2 := rfl
theorem nwe_3 : nw 3 = u_lay RX0 TX0 3 := rfl
theorem nwe_4 : nw 4 = u_lay RX1 TX1 0 := rfl
theorem nwe_5 : nw 5 = u_lay RX1 TX1 1 := rfl
theorem nwe_6 : nw 6 = u_lay RX2 TX2 0 := rfl
theorem nwe_7 : nw 7 = u_lay RX2 TX2 1 := rfl
theorem nwe_8 : nw 8 = u_lay RX2 TX2 2 := rfl
theorem nwe_9 : nw 9 = u_lay RX3 TX3 0 := rfl
theorem nwe_10 : nw 10 = u_lay RX3 TX3 1 := rfl
theorem nwe_11 : nw 11 = u_lay RX4 TX4 0 := rfl
theorem nwe_12 : nw 12 = u_lay RX4 TX4 1 := rfl
theorem nwe_13 : nw 13 = u_lay RX4 TX4 2 := rfl
theorem nwe_14 : nw 14 = u_lay RX4 TX4 3 := rfl
theorem nwe_15 : nw 15 = u_lay RX4 TX4 4 := rfl
theorem nwe_16 : nw 16 = u_lay RX5 TX5 0 := rfl
theorem nwe_17 : nw 17 = u_lay RX5 TX5 1 := rfl
theorem nwe_18 : nw 18 = u_lay RX5 TX5 2 := rfl
theorem nwe_19 : nw 19 = u_lay RX5 TX5 3 := rfl
theorem nwe_20 : nw 20 = u_lay RX5 TX5 4 := rfl
theorem nwe_21 : nw 21 = u_lay RX5 TX5 5 := rfl
theorem nwe_22 : nw 22 = u_lay RX5 TX5 6 := rfl
theorem nwe_23 : nw 23 = u_lay RX5 TX5 7 := rfl
theorem nwe_24 : nw 24 = u_lay RX5 TX5 8 := rfl
theorem nwe_25 : nw 25 = u_lay RX5 TX5 9 := rfl
theorem nwe_26 : nw 26 = u_lay RX5 TX5 10 := rfl
theorem nwe_27 : nw 27 = u_lay RX5 TX5 11 := rfl
theorem nwe_28 : nw 28 = u_lay RX5 TX5 12 := rfl
theorem nwe_29 : nw 29 = u_lay RX5 TX5 13 := rfl
theorem nwe_30 : nw 30 = u_lay RX5 TX5 14 := rfl
theorem nwe_31 : nw 31 = u_lay RX5 TX5 15 := rfl
theorem nwe_32 : nw 32 = u_lay RX5 TX5 16 := rfl
theorem nwe_33 : nw 33 = u_lay RX6 TX6 0 := rfl
theorem nwe_34 : nw 34 = u_lay RX6 TX6 1 := rfl
theorem nwe_35 : nw 35 = u_lay RX6 TX6 2 := rfl
theorem nwe_36 : nw 36 = u_lay RX6 TX6 3 := rfl
theorem nwe_37 : nw 37 = u_lay RX6 TX6 4 := rfl
theorem nwe_38 : nw 38 = u_lay RX6 TX6 5 := rfl
theorem nwe_39 : nw 39 = u_lay RX6 TX6 6 := rfl
theorem nwe_40 : nw 40 = u_lay RX6 TX6 7 := rfl
theorem nwe_41 : nw 41 = u_lay RX6 TX6 8 := rfl
theorem nwe_42 : nw 42 = u_lay RX6 TX6 9 := rfl
theorem nwe_43 : nw 43 = u_lay RX6 TX6 10 := rfl
theorem nwe_44 : nw 44 = u_lay RX6 TX6 11 := rfl
theorem nwe_45 : nw 45 = u_lay RX6 TX6 12 := rfl
theorem nwe_46 : nw 46 = u_lay RX6 TX6 13 := rfl
theorem nwe_47 : nw 47 = u_lay RX6 TX6 14 := rfl
theorem nwe_48 : nw 48 = u_lay RX7 TX7 0 := rfl
theorem nwe_49 : nw 49 = u_lay RX7 TX7 1 := rfl
theorem nwe_50 : nw 50 = u_lay RX7 TX7 2 := rfl
theorem nwe_51 : nw 51 = u_lay RX7 TX7 3 := rfl
theorem nwe_52 : nw 52 = u_lay RX7 TX7 4 := rfl
theorem nwe_53 : nw 53 = u_lay RX7 TX7 5 := rfl
theorem nwe_54 : nw 54 = u_lay RX7 TX7 6 := rfl
theorem nwe_55 : nw 55 = u_lay RX7 TX7 7 := rfl
theorem nwe_56 : nw 56 = u_lay RX7 TX7 8 := rfl
theorem nwe_57 : nw 57 = u_lay RX7 TX7 9 := rfl
theorem nwe_58 : nw 58 = u_lay RX7 TX7 10 := rfl
theorem nwe_59 : nw 59 = u_lay RX7 TX7 11 := rfl
theorem nwe_60 : nw 60 = u_lay RX7 TX7 12 := rfl
theorem nwe_61 : nw 61 = u_lay RX7 TX7 13 := rfl
theorem nwe_62 : nw 62 = u_lay RX7 TX7 14 := rfl
theorem nwe_63 : nw 63 = u_lay RX7 TX7 15 := rfl
theorem nwe_64 : nw 64 = u_lay RX7 TX7 16 := rfl
theorem nwe_65 : nw 65 = u_lay RX7 TX7 17 := rfl
theorem nwe_66 : nw 66 = u_lay RX7 TX7 18 := rfl
theorem nwe_67 : nw 67 = u_lay RX7 TX7 19 := rfl
theorem nwe_68 : nw 68 = u_lay RX7 TX7 20 := rfl
theorem nwe_69 : nw 69 = u_lay RX7 TX7 21 := rfl
theorem nwe_70 : nw 70 = u_lay RX7 TX7 22 := rfl
theorem nwe_71 : nw 71 = u_lay RX7 TX7 23 := rfl
theorem nwe_72 : nw 72 = Cond.code yX1_init cX1_init 2 none := rfl
theorem nwe_73 : nw 73 = Cond.methodLink RX1 1 objectInit := rfl
theorem nwe_74 : nw 74 = Cond.instanceMethod objectInit := rfl
theorem nwe_75 : nw 75 = Cond.code objectInit ⟨#[0xb1]⟩ 1 none := rfl
theorem nwe_76 : nw 76 = Cond.fieldLink RX1 7 "PigNinths$Row" "size" "I" := rfl
theorem nwe_77 : nw 77 = Cond.methodLink RX1 13 Lib.Math.max.name := rfl
theorem nwe_78 : nw 78 = Cond.static Lib.Math.max.name := rfl
theorem nwe_79 : nw 79 = Cond.initialized "java/lang/Math" := rfl
theorem nwe_80 : nw 80 = Cond.code Lib.Math.max.name Lib.Math.max.code 2 (some .int) := rfl
theorem nwe_81 : nw 81 = Cond.arrayClass .int := rfl
theorem nwe_82 : nw 82 = Cond.fieldLink RX1 19 "PigNinths$Row" "numbers" "[I" := rfl
theorem nwe_83 : nw 83 = Cond.code yX0_init cX0_init 1 none := rfl
theorem nwe_84 : nw 84 = Cond.methodLink RX0 3 objectInit := rfl
theorem nwe_85 : nw 85 = Cond.classLink RX0 9 RX1 := rfl
theorem nwe_86 : nw 86 = Cond.instantiable RX1 2 := rfl
theorem nwe_87 : nw 87 = Cond.initialized RX1 := rfl
theorem nwe_88 : nw 88 = Cond.fieldLink RX0 14 "PigNinths$Reader" "code" "LPigNinths$Row;" := rfl
theorem nwe_89 : nw 89 = Cond.fieldLink RX0 20 "PigNinths$Reader" "bytes" "LPigNinths$Row;" := rfl
theorem nwe_90 : nw 90 = Cond.fieldLink RX0 23 "PigNinths$Reader" "names" "I" := rfl
theorem nwe_91 : nw 91 = Cond.fieldLink RX0 27 "PigNinths$Reader" "at" "I" := rfl
theorem nwe_92 : nw 92 = Cond.methodLink RX0 11 yX1_init := rfl
theorem nwe_93 : nw 93 = Cond.instanceMethod yX1_init := rfl
theorem nwe_94 : nw 94 = Cond.code yX1_takeFrom cX1_takeFrom 2 none := rfl
theorem nwe_95 : nw 95 = Cond.methodLink RX1 23 Lib.Math.min.name := rfl
theorem nwe_96 : nw 96 = Cond.static Lib.Math.min.name := rfl
theorem nwe_97 : nw 97 = Cond.code Lib.Math.min.name Lib.Math.min.code 2 (some .int) := rfl
theorem nwe_98 : nw 98 = Cond.methodLink RX1 26 arraycopyName := rfl
theorem nwe_99 : nw 99 = Cond.native arraycopyName := rfl
theorem nwe_100 : nw 100 = Cond.static arraycopyName := rfl
theorem nwe_101 : nw 101 = Cond.initialized "java/lang/System" := rfl
theorem nwe_102 : nw 102 = Cond.code yX1_at cX1_at 2 (some .int) := rfl
theorem nwe_103 : nw 103 = Cond.code yX0_sees cX0_sees 2 (some .boolean) := rfl
theorem nwe_104 : nw 104 = Cond.fieldLink RX0 34 "PigNinths$Row" "size" "I" := rfl
theorem nwe_105 : nw 105 = Cond.methodLink RX0 41 yX1_at := rfl
theorem nwe_106 : nw 106 = Cond.instanceMethod yX1_at := rfl
theorem nwe_107 : nw 107 = Cond.selects RX1 yX1_at yX1_at := rfl
theorem nwe_108 : nw 108 = Cond.code yX1_append cX1_append 2 none := rfl
theorem nwe_109 : nw 109 = Cond.code yX0_seesDigit cX0_seesDigit 1 (some .boolean) := rfl
theorem nwe_110 : nw 110 = Cond.code yX0_number cX0_number 3 none := rfl
theorem nwe_111 : nw 111 = Cond.methodLink RX0 68 yX0_seesDigit := rfl
theorem nwe_112 : nw 112 = Cond.instanceMethod yX0_seesDigit := rfl
theorem nwe_113 : nw 113 = Cond.selects RX0 yX0_seesDigit yX0_seesDigit := rfl
theorem nwe_114 : nw 114 = Cond.initialized RX0 := rfl
theorem nwe_115 : nw 115 = Cond.methodLink RX0 53 yX1_append := rfl
theorem nwe_116 : nw 116 = Cond.instanceMethod yX1_append := rfl
theorem nwe_117 : nw 117 = Cond.selects RX1 yX1_append yX1_append := rfl
theorem nwe_118 : nw 118 = Cond.code yX0_readsName cX0_readsName 2 (some .boolean) := rfl
theorem nwe_119 : nw 119 = Cond.fieldLink RX0 81 "PigNinths$Reader" "NAMES_OF_USES" "[C" := rfl
theorem nwe_120 : nw 120 = Cond.methodLink RX0 47 yX0_sees := rfl
theorem nwe_121 : nw 121 = Cond.instanceMethod yX0_sees := rfl
theorem nwe_122 : nw 122 = Cond.selects RX0 yX0_sees yX0_sees := rfl
theorem nwe_123 : nw 123 = Cond.methodLink RX0 62 yX0_multiplied := rfl
theorem nwe_124 : nw 124 = Cond.instanceMethod yX0_multiplied := rfl
theorem nwe_125 : nw 125 = Cond.selects RX0 yX0_multiplied yX0_multiplied := rfl
theorem nwe_126 : nw 126 = Cond.code yX0_both cX0_both 2 (some .boolean) := rfl
theorem nwe_127 : nw 127 = Cond.methodLink RX0 56 yX0_compared := rfl
theorem nwe_128 : nw 128 = Cond.instanceMethod yX0_compared := rfl
theorem nwe_129 : nw 129 = Cond.selects RX0 yX0_compared yX0_compared := rfl
theorem nwe_130 : nw 130 = Cond.code yX0_compared cX0_compared 3 (some .boolean) := rfl
theorem nwe_131 : nw 131 = Cond.methodLink RX0 59 yX0_added := rfl
theorem nwe_132 : nw 132 = Cond.instanceMethod yX0_added := rfl
theorem nwe_133 : nw 133 = Cond.selects RX0 yX0_added yX0_added := rfl
theorem nwe_134 : nw 134 = Cond.code yX0_either cX0_either 2 (some .boolean) := rfl
theorem nwe_135 : nw 135 = Cond.methodLink RX0 44 yX0_both := rfl
theorem nwe_136 : nw 136 = Cond.instanceMethod yX0_both := rfl
theorem nwe_137 : nw 137 = Cond.selects RX0 yX0_both yX0_both := rfl
theorem nwe_138 : nw 138 = Cond.code yX0_enclosed cX0_enclosed 2 (some .boolean) := rfl
theorem nwe_139 : nw 139 = Cond.methodLink RX0 37 yX0_either := rfl
theorem nwe_140 : nw 140 = Cond.instanceMethod yX0_either := rfl
theorem nwe_141 : nw 141 = Cond.selects RX0 yX0_either yX0_either := rfl
theorem nwe_142 : nw 142 = Cond.code yX0_multiplied cX0_multiplied 3 (some .boolean) := rfl
theorem nwe_143 : nw 143 = Cond.methodLink RX0 65 yX0_single := rfl
theorem nwe_144 : nw 144 = Cond.instanceMethod yX0_single := rfl
theorem nwe_145 : nw 145 = Cond.selects RX0 yX0_single yX0_single := rfl
theorem nwe_146 : nw 146 = Cond.code yX0_single cX0_single 2 (some .boolean) := rfl
theorem nwe_147 : nw 147 = Cond.methodLink RX0 72 yX0_number := rfl
theorem nwe_148 : nw 148 = Cond.instanceMethod yX0_number := rfl
theorem nwe_149 : nw 149 = Cond.selects RX0 yX0_number yX0_number := rfl
theorem nwe_150 : nw 150 = Cond.methodLink RX0 75 yX0_readsName := rfl
theorem nwe_151 : nw 151 = Cond.instanceMethod yX0_readsName := rfl
theorem nwe_152 : nw 152 = Cond.selects RX0 yX0_readsName yX0_readsName := rfl
theorem nwe_153 : nw 153 = Cond.methodLink RX0 78 yX0_enclosed := rfl
theorem nwe_154 : nw 154 = Cond.instanceMethod yX0_enclosed := rfl
theorem nwe_155 : nw 155 = Cond.selects RX0 yX0_enclosed yX0_enclosed := rfl
theorem nwe_156 : nw 156 = Cond.code yX0_added cX0_added 3 (some .boolean) := rfl
theorem nwe_157 : nw 157 = Cond.methodLink RX0 30 yX1_takeFrom := rfl
theorem nwe_158 : nw 158 = Cond.instanceMethod yX1_takeFrom := rfl
theorem nwe_159 : nw 159 = Cond.selects RX1 yX1_takeFrom yX1_takeFrom := rfl
theorem nwe_160 : nw 160 = Cond.code yX0_read cX0_read 4 (some .int) := rfl
theorem nwe_161 : nw 161 = Cond.code yX2_init cX2_init 1 none := rfl
theorem nwe_162 : nw 162 = Cond.methodLink RX2 3 objectInit := rfl
theorem nwe_163 : nw 163 = Cond.fieldLink RX2 9 "PigNinths$Sheet" "numbers" "[I" := rfl
theorem nwe_164 : nw 164 = Cond.fieldLink RX2 15 "PigNinths$Sheet" "bits" "I" := rfl
theorem nwe_165 : nw 165 = Cond.fieldLink RX2 19 "PigNinths$Sheet" "size" "I" := rfl
theorem nwe_166 : nw 166 = Cond.code yX2_isMissing cX2_isMissing 1 (some .boolean) := rfl
theorem nwe_167 : nw 167 = Cond.code yJ7_fill_53178 cJ7_fill_53178 4 none := rfl
theorem nwe_168 : nw 168 = Cond.code yX2_becomes cX2_becomes 3 none := rfl
theorem nwe_169 : nw 169 = Cond.methodLink RX2 22 Lib.Math.min.name := rfl
theorem nwe_170 : nw 170 = Cond.methodLink RX2 28 Lib.Math.max.name := rfl
theorem nwe_171 : nw 171 = Cond.methodLink RX2 31 yJ7_fill_53178 := rfl
theorem nwe_172 : nw 172 = Cond.static yJ7_fill_53178 := rfl
theorem nwe_173 : nw 173 = Cond.initialized RJ7 := rfl
theorem nwe_174 : nw 174 = Cond.code yX2_at cX2_at 2 (some .int) := rfl
theorem nwe_175 : nw 175 = Cond.code yX2_hold cX2_hold 4 none := rfl
theorem nwe_176 : nw 176 = Cond.code yX2_holdsPart cX2_holdsPart 3 (some .boolean) := rfl
theorem nwe_177 : nw 177 = Cond.code yX2_startsWith cX2_startsWith 3 (some .boolean) := rfl
theorem nwe_178 : nw 178 = Cond.code yX3_init cX3_init 1 none := rfl
theorem nwe_179 : nw 179 = Cond.methodLink RX3 3 objectInit := rfl
theorem nwe_180 : nw 180 = Cond.classLink RX3 9 RX1 := rfl
theorem nwe_181 : nw 181 = Cond.fieldLink RX3 14 "PigNinths$Text" "code" "LPigNinths$Row;" := rfl
theorem nwe_182 : nw 182 = Cond.fieldLink RX3 20 "PigNinths$Text" "stack" "[I" := rfl
theorem nwe_183 : nw 183 = Cond.methodLink RX3 11 yX1_init := rfl
theorem nwe_184 : nw 184 = Cond.code yX3_isThere cX3_isThere 1 (some .boolean) := rfl
theorem nwe_185 : nw 185 = Cond.fieldLink RX3 24 "PigNinths$Row" "size" "I" := rfl
theorem nwe_186 : nw 186 = Cond.code yX3_named cX3_named 4 (some .int) := rfl
theorem nwe_187 : nw 187 = Cond.code yX3_joined cX3_joined 3 (some .int) := rfl
theorem nwe_188 : nw 188 = Cond.code yX3_value cX3_value 7 (some .int) := rfl
theorem nwe_189 : nw 189 = Cond.methodLink RX3 28 yX1_at := rfl
theorem nwe_190 : nw 190 = Cond.methodLink RX3 32 yX3_named := rfl
theorem nwe_191 : nw 191 = Cond.static yX3_named := rfl
theorem nwe_192 : nw 192 = Cond.initialized RX3 := rfl
theorem nwe_193 : nw 193 = Cond.methodLink RX3 36 yX3_joined := rfl
theorem nwe_194 : nw 194 = Cond.static yX3_joined := rfl
theorem nwe_195 : nw 195 = Cond.code yX4_init cX4_init 1 none := rfl
theorem nwe_196 : nw 196 = Cond.methodLink RX4 3 objectInit := rfl
theorem nwe_197 : nw 197 = Cond.classLink RX4 9 RX1 := rfl
theorem nwe_198 : nw 198 = Cond.fieldLink RX4 14 "PigNinths$Voices" "trace" "LPigNinths$Row;" := rfl
theorem nwe_199 : nw 199 = Cond.fieldLink RX4 20 "PigNinths$Voices" "parted" "Z" := rfl
theorem nwe_200 : nw 200 = Cond.fieldLink RX4 24 "PigNinths$Voices" "k" "I" := rfl
theorem nwe_201 : nw 201 = Cond.fieldLink RX4 28 "PigNinths$Voices" "m" "I" := rfl
theorem nwe_202 : nw 202 = Cond.fieldLink RX4 31 "PigNinths$Voices" "ownKind" "I" := rfl
theorem nwe_203 : nw 203 = Cond.methodLink RX4 11 yX1_init := rfl
theorem nwe_204 : nw 204 = Cond.code yX4_partedBy cX4_partedBy 3 (some .int) := rfl
theorem nwe_205 : nw 205 = Cond.methodLink RX4 41 yX4_from := rfl
theorem nwe_206 : nw 206 = Cond.instanceMethod yX4_from := rfl
theorem nwe_207 : nw 207 = Cond.selects RX4 yX4_from yX4_from := rfl
theorem nwe_208 : nw 208 = Cond.initialized RX4 := rfl
theorem nwe_209 : nw 209 = Cond.code yX4_from cX4_from 8 (some .int) := rfl
theorem nwe_210 : nw 210 = Cond.fieldLink RX4 49 "PigNinths$Voices" "BODIES" "[I" := rfl
theorem nwe_211 : nw 211 = Cond.methodLink RX4 52 yX4_workedOut := rfl
theorem nwe_212 : nw 212 = Cond.instanceMethod yX4_workedOut := rfl
theorem nwe_213 : nw 213 = Cond.selects RX4 yX4_workedOut yX4_workedOut := rfl
theorem nwe_214 : nw 214 = Cond.code yX4_own cX4_own 4 (some .int) := rfl
theorem nwe_215 : nw 215 = Cond.code yX4_workedOut cX4_workedOut 5 (some .int) := rfl
theorem nwe_216 : nw 216 = Cond.methodLink RX4 55 yX1_append := rfl
theorem nwe_217 : nw 217 = Cond.methodLink RX4 37 yX4_own := rfl
theorem nwe_218 : nw 218 = Cond.instanceMethod yX4_own := rfl
theorem nwe_219 : nw 219 = Cond.selects RX4 yX4_own yX4_own := rfl
theorem nwe_220 : nw 220 = Cond.methodLink RX4 58 yX4_partedBy := rfl
theorem nwe_221 : nw 221 = Cond.instanceMethod yX4_partedBy := rfl
theorem nwe_222 : nw 222 = Cond.selects RX4 yX4_partedBy yX4_partedBy := rfl
theorem nwe_223 : nw 223 = Cond.methodLink RX4 62 yX4_above := rfl
theorem nwe_224 : nw 224 = Cond.instanceMethod yX4_above := rfl
theorem nwe_225 : nw 225 = Cond.selects RX4 yX4_above yX4_above := rfl
theorem nwe_226 : nw 226 = Cond.code yX4_above cX4_above 5 (some .int) := rfl
theorem nwe_227 : nw 227 = Cond.fieldLink RX4 34 "PigNinths$Row" "size" "I" := rfl
theorem nwe_228 : nw 228 = Cond.code yX4_answer cX4_answer 6 (some .int) := rfl
theorem nwe_229 : nw 229 = Cond.methodLink RX5 3 objectInit := rfl
theorem nwe_230 : nw 230 = Cond.fieldLink RX5 9 "PigNinths$World" "owner" "[I" := rfl
theorem nwe_231 : nw 231 = Cond.fieldLink RX5 15 "PigNinths$World" "under" "[I" := rfl
theorem nwe_232 : nw 232 = Cond.fieldLink RX5 18 "PigNinths$World" "kind" "[I" := rfl
theorem nwe_233 : nw 233 = Cond.fieldLink RX5 21 "PigNinths$World" "mark" "[I" := rfl
theorem nwe_234 : nw 234 = Cond.fieldLink RX5 24 "PigNinths$World" "purse" "[I" := rfl
theorem nwe_235 : nw 235 = Cond.fieldLink RX5 27 "PigNinths$World" "hid" "[I" := rfl
theorem nwe_236 : nw 236 = Cond.fieldLink RX5 30 "PigNinths$World" "turn" "[I" := rfl
theorem nwe_237 : nw 237 = Cond.fieldLink RX5 33 "PigNinths$World" "leash" "[I" := rfl
theorem nwe_238 : nw 238 = Cond.classLink RX5 36 RX3 := rfl
theorem nwe_239 : nw 239 = Cond.instantiable RX3 2 := rfl
theorem nwe_240 : nw 240 = Cond.fieldLink RX5 39 "PigNinths$World" "feeding" "LPigNinths$Text;" := rfl
theorem nwe_241 : nw 241 = Cond.fieldLink RX5 43 "PigNinths$World" "nose" "LPigNinths$Text;" := rfl
theorem nwe_242 : nw 242 = Cond.fieldLink RX5 46 "PigNinths$World" "rain" "I" := rfl
theorem nwe_243 : nw 243 = Cond.fieldLink RX5 50 "PigNinths$World" "place" "I" := rfl
theorem nwe_244 : nw 244 = Cond.fieldLink RX5 53 "PigNinths$World" "hunger" "I" := rfl
theorem nwe_245 : nw 245 = Cond.fieldLink RX5 56 "PigNinths$World" "day" "I" := rfl
theorem nwe_246 : nw 246 = Cond.fieldLink RX5 59 "PigNinths$World" "drawn" "I" := rfl
theorem nwe_247 : nw 247 = Cond.fieldLink RX5 62 "PigNinths$World" "smell" "[I" := rfl
theorem nwe_248 : nw 248 = Cond.fieldLink RX5 65 "PigNinths$World" "dug" "[I" := rfl
theorem nwe_249 : nw 249 = Cond.instanceMethod yX3_init := rfl
theorem nwe_250 : nw 250 = Cond.methodLink RX5 68 yJ7_fill_53178 := rfl
theorem nwe_251 : nw 251 = Cond.code yX5_init cX5_init 2 none := rfl
theorem nwe_252 : nw 252 = Cond.code yX5_takeWoodFrom cX5_takeWoodFrom 2 none := rfl
theorem nwe_253 : nw 253 = Cond.methodLink RX5 74 arraycopyName := rfl
theorem nwe_254 : nw 254 = Cond.fieldLink RX5 80 "PigNinths$Text" "code" "LPigNinths$Row;" := rfl
theorem nwe_255 : nw 255 = Cond.methodLink RX5 84 yX1_takeFrom := rfl
theorem nwe_256 : nw 256 = Cond.methodLink RX5 90 yX5_takeWoodFrom := rfl
theorem nwe_257 : nw 257 = Cond.instanceMethod yX5_takeWoodFrom := rfl
theorem nwe_258 : nw 258 = Cond.selects RX5 yX5_takeWoodFrom yX5_takeWoodFrom := rfl
theorem nwe_259 : nw 259 = Cond.initialized RX5 := rfl
theorem nwe_260 : nw 260 = Cond.code yX5_takeFrom cX5_takeFrom 2 none := rfl
theorem nwe_261 : nw 261 = Cond.code yX5_textOf cX5_textOf 2 (some (.object "PigNinths$Text")) := rfl
theorem nwe_262 : nw 262 = Cond.code yX5_within4 cX5_within4 1 (some .int) := rfl
theorem nwe_263 : nw 263 = Cond.methodLink RX5 120 Lib.Math.min.name := rfl
theorem nwe_264 : nw 264 = Cond.methodLink RX5 152 Lib.Math.max.name := rfl
theorem nwe_265 : nw 265 = Cond.code yX5_ofFarmer cX5_ofFarmer 3 (some .int) := rfl
theorem nwe_266 : nw 266 = Cond.methodLink RX5 94 yX5_within4 := rfl
theorem nwe_267 : nw 267 = Cond.static yX5_within4 := rfl
theorem nwe_268 : nw 268 = Cond.code yX5_changeTurns cX5_changeTurns 4 none := rfl
theorem nwe_269 : nw 269 = Cond.code yX5_whoHasIt cX5_whoHasIt 3 (some .int) := rfl
theorem nwe_270 : nw 270 = Cond.code yX5_richestOak cX5_richestOak 3 (some .int) := rfl
theorem nwe_271 : nw 271 = Cond.code yX5_dugFor cX5_dugFor 4 (some .int) := rfl
theorem nwe_272 : nw 272 = Cond.code yX5_drawRain cX5_drawRain 1 none := rfl
theorem nwe_273 : nw 273 = Cond.constant RX5 98 (1103515245) := rfl
theorem nwe_274 : nw 274 = Cond.methodLink RX5 134 yX3_isThere := rfl
theorem nwe_275 : nw 275 = Cond.instanceMethod yX3_isThere := rfl
theorem nwe_276 : nw 276 = Cond.selects RX3 yX3_isThere yX3_isThere := rfl
theorem nwe_277 : nw 277 = Cond.methodLink RX5 138 yX3_value := rfl
theorem nwe_278 : nw 278 = Cond.instanceMethod yX3_value := rfl
theorem nwe_279 : nw 279 = Cond.selects RX3 yX3_value yX3_value := rfl
theorem nwe_280 : nw 280 = Cond.code yX5_smellOf cX5_smellOf 2 (some .int) := rfl
theorem nwe_281 : nw 281 = Cond.methodLink RX5 125 yX5_smellOf := rfl
theorem nwe_282 : nw 282 = Cond.instanceMethod yX5_smellOf := rfl
theorem nwe_283 : nw 283 = Cond.selects RX5 yX5_smellOf yX5_smellOf := rfl
theorem nwe_284 : nw 284 = Cond.code yX5_morning cX5_morning 2 none := rfl
theorem nwe_285 : nw 285 = Cond.code yX5_beside cX5_beside 2 (some .int) := rfl
theorem nwe_286 : nw 286 = Cond.code yX5_bestSmell cX5_bestSmell 5 (some .int) := rfl
theorem nwe_287 : nw 287 = Cond.methodLink RX5 142 Lib.Math.abs.name := rfl
theorem nwe_288 : nw 288 = Cond.static Lib.Math.abs.name := rfl
theorem nwe_289 : nw 289 = Cond.code Lib.Math.abs.name Lib.Math.abs.code 1 (some .int) := rfl
theorem nwe_290 : nw 290 = Cond.methodLink RX5 128 yX5_beside := rfl
theorem nwe_291 : nw 291 = Cond.static yX5_beside := rfl
theorem nwe_292 : nw 292 = Cond.methodLink RX5 131 yX5_bestSmell := rfl
theorem nwe_293 : nw 293 = Cond.instanceMethod yX5_bestSmell := rfl
theorem nwe_294 : nw 294 = Cond.selects RX5 yX5_bestSmell yX5_bestSmell := rfl
theorem nwe_295 : nw 295 = Cond.code yX5_hours cX5_hours 6 (some .int) := rfl
theorem nwe_296 : nw 296 = Cond.code yX5_toPurse cX5_toPurse 3 none := rfl
theorem nwe_297 : nw 297 = Cond.constant RX5 148 (99999999) := rfl
theorem nwe_298 : nw 298 = Cond.code yX5_partOut cX5_partOut 7 none := rfl
theorem nwe_299 : nw 299 = Cond.methodLink RX5 145 yX5_toPurse := rfl
theorem nwe_300 : nw 300 = Cond.instanceMethod yX5_toPurse := rfl
theorem nwe_301 : nw 301 = Cond.selects RX5 yX5_toPurse yX5_toPurse := rfl
theorem nwe_302 : nw 302 = Cond.code yX5_held cX5_held 1 (some .int) := rfl
theorem nwe_303 : nw 303 = Cond.methodLink RX5 149 yX5_held := rfl
theorem nwe_304 : nw 304 = Cond.static yX5_held := rfl
theorem nwe_305 : nw 305 = Cond.code yX5_feedsOf cX5_feedsOf 4 (some .int) := rfl
theorem nwe_306 : nw 306 = Cond.methodLink RX5 102 yX5_whoHasIt := rfl
theorem nwe_307 : nw 307 = Cond.instanceMethod yX5_whoHasIt := rfl
theorem nwe_308 : nw 308 = Cond.selects RX5 yX5_whoHasIt yX5_whoHasIt := rfl
theorem nwe_309 : nw 309 = Cond.methodLink RX5 106 yX5_morning := rfl
theorem nwe_310 : nw 310 = Cond.instanceMethod yX5_morning := rfl
theorem nwe_311 : nw 311 = Cond.selects RX5 yX5_morning yX5_morning := rfl
theorem nwe_312 : nw 312 = Cond.methodLink RX5 109 yX5_hours := rfl
theorem nwe_313 : nw 313 = Cond.instanceMethod yX5_hours := rfl
theorem nwe_314 : nw 314 = Cond.selects RX5 yX5_hours yX5_hours := rfl
theorem nwe_315 : nw 315 = Cond.methodLink RX5 112 yX5_partOut := rfl
theorem nwe_316 : nw 316 = Cond.instanceMethod yX5_partOut := rfl
theorem nwe_317 : nw 317 = Cond.selects RX5 yX5_partOut yX5_partOut := rfl
theorem nwe_318 : nw 318 = Cond.methodLink RX5 116 yX5_feedsOf := rfl
theorem nwe_319 : nw 319 = Cond.instanceMethod yX5_feedsOf := rfl
theorem nwe_320 : nw 320 = Cond.selects RX5 yX5_feedsOf yX5_feedsOf := rfl
theorem nwe_321 : nw 321 = Cond.code yX5_oneDay cX5_oneDay 4 (some .int) := rfl
theorem nwe_322 : nw 322 = Cond.methodLink RX5 99 yX5_oneDay := rfl
theorem nwe_323 : nw 323 = Cond.instanceMethod yX5_oneDay := rfl
theorem nwe_324 : nw 324 = Cond.selects RX5 yX5_oneDay yX5_oneDay := rfl
theorem nwe_325 : nw 325 = Cond.code yX5_goOn cX5_goOn 4 (some .int) := rfl
theorem nwe_326 : nw 326 = Cond.methodLink RX6 1 objectInit := rfl
theorem nwe_327 : nw 327 = Cond.classLink RX6 7 RX5 := rfl
theorem nwe_328 : nw 328 = Cond.instantiable RX5 17 := rfl
theorem nwe_329 : nw 329 = Cond.fieldLink RX6 10 "PigNinths" "now" "LPigNinths$World;" := rfl
theorem nwe_330 : nw 330 = Cond.classLink RX6 16 RX1 := rfl
theorem nwe_331 : nw 331 = Cond.fieldLink RX6 21 "PigNinths" "tape" "LPigNinths$Row;" := rfl
theorem nwe_332 : nw 332 = Cond.fieldLink RX6 25 "PigNinths" "waiting" "LPigNinths$Row;" := rfl
theorem nwe_333 : nw 333 = Cond.fieldLink RX6 28 "PigNinths" "keptWorld" "LPigNinths$World;" := rfl
theorem nwe_334 : nw 334 = Cond.fieldLink RX6 31 "PigNinths" "keptTape" "LPigNinths$Row;" := rfl
theorem nwe_335 : nw 335 = Cond.fieldLink RX6 34 "PigNinths" "keptWaiting" "LPigNinths$Row;" := rfl
theorem nwe_336 : nw 336 = Cond.fieldLink RX6 37 "PigNinths" "images" "I" := rfl
theorem nwe_337 : nw 337 = Cond.fieldLink RX6 41 "PigNinths" "side" "LPigNinths$World;" := rfl
theorem nwe_338 : nw 338 = Cond.fieldLink RX6 44 "PigNinths" "trial" "LPigNinths$World;" := rfl
theorem nwe_339 : nw 339 = Cond.fieldLink RX6 47 "PigNinths" "best" "[I" := rfl
theorem nwe_340 : nw 340 = Cond.fieldLink RX6 51 "PigNinths" "finds" "[I" := rfl
theorem nwe_341 : nw 341 = Cond.classLink RX6 54 RX0 := rfl
theorem nwe_342 : nw 342 = Cond.instantiable RX0 4 := rfl
theorem nwe_343 : nw 343 = Cond.fieldLink RX6 57 "PigNinths" "reader" "LPigNinths$Reader;" := rfl
theorem nwe_344 : nw 344 = Cond.classLink RX6 61 RX4 := rfl
theorem nwe_345 : nw 345 = Cond.instantiable RX4 5 := rfl
theorem nwe_346 : nw 346 = Cond.fieldLink RX6 64 "PigNinths" "voices" "LPigNinths$Voices;" := rfl
theorem nwe_347 : nw 347 = Cond.classLink RX6 68 RX2 := rfl
theorem nwe_348 : nw 348 = Cond.fieldLink RX6 70 "PigNinths" "sheets" "[LPigNinths$Sheet;" := rfl
theorem nwe_349 : nw 349 = Cond.fieldLink RX6 74 "PigNinths" "errors" "[I" := rfl
theorem nwe_350 : nw 350 = Cond.instantiable RX2 3 := rfl
theorem nwe_351 : nw 351 = Cond.initialized RX2 := rfl
theorem nwe_352 : nw 352 = Cond.methodLink RX6 9 yX5_init := rfl
theorem nwe_353 : nw 353 = Cond.instanceMethod yX5_init := rfl
theorem nwe_354 : nw 354 = Cond.methodLink RX6 18 yX1_init := rfl
theorem nwe_355 : nw 355 = Cond.instanceMethod yX0_init := rfl
theorem nwe_356 : nw 356 = Cond.instanceMethod yX4_init := rfl
theorem nwe_357 : nw 357 = Cond.instanceMethod yX2_init := rfl
theorem nwe_358 : nw 358 = Cond.code yX6_init cX6_init 2 none := rfl
theorem nwe_359 : nw 359 = Cond.code yX6_within cX6_within 3 (some .boolean) := rfl
theorem nwe_360 : nw 360 = Cond.code yX6_isOak cX6_isOak 1 (some .boolean) := rfl
theorem nwe_361 : nw 361 = Cond.methodLink RX6 82 yX6_within := rfl
theorem nwe_362 : nw 362 = Cond.static yX6_within := rfl
theorem nwe_363 : nw 363 = Cond.initialized RX6 := rfl
theorem nwe_364 : nw 364 = Cond.code yX6_error cX6_error 2 (some .int) := rfl
theorem nwe_365 : nw 365 = Cond.constant RX6 260 (-1000000000) := rfl
theorem nwe_366 : nw 366 = Cond.code yX6_isFarmer cX6_isFarmer 1 (some .boolean) := rfl
theorem nwe_367 : nw 367 = Cond.code yX6_oak cX6_oak 5 (some .int) := rfl
theorem nwe_368 : nw 368 = Cond.fieldLink RX6 93 "PigNinths$World" "owner" "[I" := rfl
theorem nwe_369 : nw 369 = Cond.fieldLink RX6 96 "PigNinths$World" "under" "[I" := rfl
theorem nwe_370 : nw 370 = Cond.methodLink RX6 78 yX6_isOak := rfl
theorem nwe_371 : nw 371 = Cond.static yX6_isOak := rfl
theorem nwe_372 : nw 372 = Cond.methodLink RX6 86 yX6_error := rfl
theorem nwe_373 : nw 373 = Cond.instanceMethod yX6_error := rfl
theorem nwe_374 : nw 374 = Cond.selects RX6 yX6_error yX6_error := rfl
theorem nwe_375 : nw 375 = Cond.methodLink RX6 90 yX6_isFarmer := rfl
theorem nwe_376 : nw 376 = Cond.static yX6_isFarmer := rfl
theorem nwe_377 : nw 377 = Cond.methodLink RX6 99 yX5_smellOf := rfl
theorem nwe_378 : nw 378 = Cond.code yX6_oakIs cX6_oakIs 3 (some .int) := rfl
theorem nwe_379 : nw 379 = Cond.code yX6_rain cX6_rain 3 (some .int) := rfl
theorem nwe_380 : nw 380 = Cond.fieldLink RX6 102 "PigNinths$World" "rain" "I" := rfl
theorem nwe_381 : nw 381 = Cond.code yX6_farmer cX6_farmer 4 (some .int) := rfl
theorem nwe_382 : nw 382 = Cond.fieldLink RX6 105 "PigNinths$World" "kind" "[I" := rfl
theorem nwe_383 : nw 383 = Cond.fieldLink RX6 108 "PigNinths$World" "mark" "[I" := rfl
theorem nwe_384 : nw 384 = Cond.methodLink RX6 111 yX5_ofFarmer := rfl
theorem nwe_385 : nw 385 = Cond.instanceMethod yX5_ofFarmer := rfl
theorem nwe_386 : nw 386 = Cond.selects RX5 yX5_ofFarmer yX5_ofFarmer := rfl
theorem nwe_387 : nw 387 = Cond.code yX6_farmerIs cX6_farmerIs 3 (some .int) := rfl
theorem nwe_388 : nw 388 = Cond.code yX6_isOfKind cX6_isOfKind 4 (some .boolean) := rfl
theorem nwe_389 : nw 389 = Cond.fieldLink RX6 280 "PigNinths" "ABOVE" "[I" := rfl
theorem nwe_390 : nw 390 = Cond.code yX6_as cX6_as 3 (some .int) := rfl
theorem nwe_391 : nw 391 = Cond.methodLink RX6 115 yX6_isOfKind := rfl
theorem nwe_392 : nw 392 = Cond.static yX6_isOfKind := rfl
theorem nwe_393 : nw 393 = Cond.code yX6_trade cX6_trade 3 (some .int) := rfl
theorem nwe_394 : nw 394 = Cond.fieldLink RX6 123 "PigNinths$World" "turn" "[I" := rfl
theorem nwe_395 : nw 395 = Cond.methodLink RX6 119 yX5_changeTurns := rfl
theorem nwe_396 : nw 396 = Cond.instanceMethod yX5_changeTurns := rfl
theorem nwe_397 : nw 397 = Cond.selects RX5 yX5_changeTurns yX5_changeTurns := rfl
theorem nwe_398 : nw 398 = Cond.code yX6_leash cX6_leash 5 (some .int) := rfl
theorem nwe_399 : nw 399 = Cond.fieldLink RX6 126 "PigNinths$World" "leash" "[I" := rfl
theorem nwe_400 : nw 400 = Cond.code yX6_pig cX6_pig 4 (some .int) := rfl
theorem nwe_401 : nw 401 = Cond.fieldLink RX6 129 "PigNinths$World" "place" "I" := rfl
theorem nwe_402 : nw 402 = Cond.fieldLink RX6 132 "PigNinths$World" "hunger" "I" := rfl
theorem nwe_403 : nw 403 = Cond.code yX6_feed cX6_feed 5 (some .int) := rfl
theorem nwe_404 : nw 404 = Cond.fieldLink RX6 135 "PigNinths$Row" "size" "I" := rfl
theorem nwe_405 : nw 405 = Cond.methodLink RX6 138 yX1_append := rfl
theorem nwe_406 : nw 406 = Cond.fieldLink RX6 149 "PigNinths$Text" "code" "LPigNinths$Row;" := rfl
theorem nwe_407 : nw 407 = Cond.fieldLink RX6 154 "PigNinths$Reader" "code" "LPigNinths$Row;" := rfl
theorem nwe_408 : nw 408 = Cond.methodLink RX6 141 yX0_read := rfl
theorem nwe_409 : nw 409 = Cond.instanceMethod yX0_read := rfl
theorem nwe_410 : nw 410 = Cond.selects RX0 yX0_read yX0_read := rfl
theorem nwe_411 : nw 411 = Cond.methodLink RX6 145 yX5_textOf := rfl
theorem nwe_412 : nw 412 = Cond.instanceMethod yX5_textOf := rfl
theorem nwe_413 : nw 413 = Cond.selects RX5 yX5_textOf yX5_textOf := rfl
theorem nwe_414 : nw 414 = Cond.methodLink RX6 155 yX1_takeFrom := rfl
theorem nwe_415 : nw 415 = Cond.code yX6_text cX6_text 3 (some .int) := rfl
theorem nwe_416 : nw 416 = Cond.methodLink RX6 159 yX3_isThere := rfl
theorem nwe_417 : nw 417 = Cond.code yX6_untell cX6_untell 4 (some .int) := rfl
theorem nwe_418 : nw 418 = Cond.fieldLink RX6 163 "PigNinths$World" "day" "I" := rfl
theorem nwe_419 : nw 419 = Cond.methodLink RX6 166 yX5_goOn := rfl
theorem nwe_420 : nw 420 = Cond.instanceMethod yX5_goOn := rfl
theorem nwe_421 : nw 421 = Cond.selects RX5 yX5_goOn yX5_goOn := rfl
theorem nwe_422 : nw 422 = Cond.code yX6_days cX6_days 2 (some .int) := rfl
theorem nwe_423 : nw 423 = Cond.methodLink RX6 169 yX5_drawRain := rfl
theorem nwe_424 : nw 424 = Cond.instanceMethod yX5_drawRain := rfl
theorem nwe_425 : nw 425 = Cond.selects RX5 yX5_drawRain yX5_drawRain := rfl
theorem nwe_426 : nw 426 = Cond.methodLink RX6 172 yX5_oneDay := rfl
theorem nwe_427 : nw 427 = Cond.code yX6_draws cX6_draws 4 (some .int) := rfl
theorem nwe_428 : nw 428 = Cond.code yX6_seed cX6_seed 3 (some .int) := rfl
theorem nwe_429 : nw 429 = Cond.fieldLink RX6 175 "PigNinths$World" "drawn" "I" := rfl
theorem nwe_430 : nw 430 = Cond.methodLink RX6 178 yX5_takeFrom := rfl
theorem nwe_431 : nw 431 = Cond.instanceMethod yX5_takeFrom := rfl
theorem nwe_432 : nw 432 = Cond.selects RX5 yX5_takeFrom yX5_takeFrom := rfl
theorem nwe_433 : nw 433 = Cond.code yX6_then cX6_then 4 (some .int) := rfl
theorem nwe_434 : nw 434 = Cond.code yX6_sum cX6_sum 6 (some .int) := rfl
theorem nwe_435 : nw 435 = Cond.methodLink RX6 181 yX6_sum := rfl
theorem nwe_436 : nw 436 = Cond.static yX6_sum := rfl
theorem nwe_437 : nw 437 = Cond.methodLink RX6 185 yX5_richestOak := rfl
theorem nwe_438 : nw 438 = Cond.instanceMethod yX5_richestOak := rfl
theorem nwe_439 : nw 439 = Cond.selects RX5 yX5_richestOak yX5_richestOak := rfl
theorem nwe_440 : nw 440 = Cond.code yX6_ahead cX6_ahead 3 (some .int) := rfl
theorem nwe_441 : nw 441 = Cond.fieldLink RX6 267 "PigNinths" "ROW_PLACES" "[I" := rfl
theorem nwe_442 : nw 442 = Cond.methodLink RX6 246 arraycopyName := rfl
theorem nwe_443 : nw 443 = Cond.methodLink RX6 261 yX5_morning := rfl
theorem nwe_444 : nw 444 = Cond.methodLink RX6 192 yX5_whoHasIt := rfl
theorem nwe_445 : nw 445 = Cond.methodLink RX6 264 yX5_takeWoodFrom := rfl
theorem nwe_446 : nw 446 = Cond.methodLink RX6 270 yX5_hours := rfl
theorem nwe_447 : nw 447 = Cond.code yX6_seekLeash cX6_seekLeash 4 none := rfl
theorem nwe_448 : nw 448 = Cond.methodLink RX6 189 yX6_seekLeash := rfl
theorem nwe_449 : nw 449 = Cond.instanceMethod yX6_seekLeash := rfl
theorem nwe_450 : nw 450 = Cond.selects RX6 yX6_seekLeash yX6_seekLeash := rfl
theorem nwe_451 : nw 451 = Cond.code yX6_bestLeash cX6_bestLeash 2 (some .int) := rfl
theorem nwe_452 : nw 452 = Cond.fieldLink RX6 195 "PigNinths$World" "purse" "[I" := rfl
theorem nwe_453 : nw 453 = Cond.methodLink RX6 198 Lib.Math.max.name := rfl
theorem nwe_454 : nw 454 = Cond.code yX6_bestFeed cX6_bestFeed 9 (some .int) := rfl
theorem nwe_455 : nw 455 = Cond.code yX6_gain cX6_gain 3 (some .int) := rfl
theorem nwe_456 : nw 456 = Cond.code yX6_bestTrade cX6_bestTrade 7 (some .int) := rfl
theorem nwe_457 : nw 457 = Cond.methodLink RX6 203 yX5_dugFor := rfl
theorem nwe_458 : nw 458 = Cond.instanceMethod yX5_dugFor := rfl
theorem nwe_459 : nw 459 = Cond.selects RX5 yX5_dugFor yX5_dugFor := rfl
theorem nwe_460 : nw 460 = Cond.code yX6_share cX6_share 9 (some .int) := rfl
theorem nwe_461 : nw 461 = Cond.code yX6_isSheet cX6_isSheet 1 (some .boolean) := rfl
theorem nwe_462 : nw 462 = Cond.methodLink RX6 273 yX5_partOut := rfl
theorem nwe_463 : nw 463 = Cond.methodLink RX6 276 yX2_startsWith := rfl
theorem nwe_464 : nw 464 = Cond.instanceMethod yX2_startsWith := rfl
theorem nwe_465 : nw 465 = Cond.selects RX2 yX2_startsWith yX2_startsWith := rfl
theorem nwe_466 : nw 466 = Cond.code yX6_leastMark cX6_leastMark 6 (some .int) := rfl
theorem nwe_467 : nw 467 = Cond.fieldLink RX6 212 "PigNinths$Sheet" "size" "I" := rfl
theorem nwe_468 : nw 468 = Cond.methodLink RX6 206 yX6_isSheet := rfl
theorem nwe_469 : nw 469 = Cond.static yX6_isSheet := rfl
theorem nwe_470 : nw 470 = Cond.methodLink RX6 209 yX2_isMissing := rfl
theorem nwe_471 : nw 471 = Cond.instanceMethod yX2_isMissing := rfl
theorem nwe_472 : nw 472 = Cond.selects RX2 yX2_isMissing yX2_isMissing := rfl
theorem nwe_473 : nw 473 = Cond.methodLink RX6 213 yX6_leastMark := rfl
theorem nwe_474 : nw 474 = Cond.instanceMethod yX6_leastMark := rfl
theorem nwe_475 : nw 475 = Cond.selects RX6 yX6_leastMark yX6_leastMark := rfl
theorem nwe_476 : nw 476 = Cond.code yX6_whoHid cX6_whoHid 10 (some .int) := rfl
theorem nwe_477 : nw 477 = Cond.fieldLink RX6 221 "PigNinths$Voices" "parted" "Z" := rfl
theorem nwe_478 : nw 478 = Cond.methodLink RX6 217 yX4_answer := rfl
theorem nwe_479 : nw 479 = Cond.instanceMethod yX4_answer := rfl
theorem nwe_480 : nw 480 = Cond.selects RX4 yX4_answer yX4_answer := rfl
theorem nwe_481 : nw 481 = Cond.code yX6_voice cX6_voice 5 (some .int) := rfl
theorem nwe_482 : nw 482 = Cond.code yX6_body cX6_body 2 (some .int) := rfl
theorem nwe_483 : nw 483 = Cond.fieldLink RX6 225 "PigNinths$Voices" "trace" "LPigNinths$Row;" := rfl
theorem nwe_484 : nw 484 = Cond.methodLink RX6 228 yX1_at := rfl
theorem nwe_485 : nw 485 = Cond.methodLink RX6 231 yX2_becomes := rfl
theorem nwe_486 : nw 486 = Cond.instanceMethod yX2_becomes := rfl
theorem nwe_487 : nw 487 = Cond.selects RX2 yX2_becomes yX2_becomes := rfl
theorem nwe_488 : nw 488 = Cond.code yX6_sheet cX6_sheet 4 (some .int) := rfl
theorem nwe_489 : nw 489 = Cond.methodLink RX6 234 yX2_hold := rfl
theorem nwe_490 : nw 490 = Cond.instanceMethod yX2_hold := rfl
theorem nwe_491 : nw 491 = Cond.selects RX2 yX2_hold yX2_hold := rfl
theorem nwe_492 : nw 492 = Cond.code yX6_put cX6_put 5 (some .int) := rfl
theorem nwe_493 : nw 493 = Cond.fieldLink RX6 237 "PigNinths$Sheet" "bits" "I" := rfl
theorem nwe_494 : nw 494 = Cond.fieldLink RX6 243 "PigNinths$Sheet" "numbers" "[I" := rfl
theorem nwe_495 : nw 495 = Cond.methodLink RX6 240 yX2_holdsPart := rfl
theorem nwe_496 : nw 496 = Cond.instanceMethod yX2_holdsPart := rfl
theorem nwe_497 : nw 497 = Cond.selects RX2 yX2_holdsPart yX2_holdsPart := rfl
theorem nwe_498 : nw 498 = Cond.code yX6_move cX6_move 8 (some .int) := rfl
theorem nwe_499 : nw 499 = Cond.methodLink RX6 252 Lib.Math.min.name := rfl
theorem nwe_500 : nw 500 = Cond.methodLink RX6 255 yX2_at := rfl
theorem nwe_501 : nw 501 = Cond.instanceMethod yX2_at := rfl
theorem nwe_502 : nw 502 = Cond.selects RX2 yX2_at yX2_at := rfl
theorem nwe_503 : nw 503 = Cond.code yX6_unders cX6_unders 5 (some .int) := rfl
theorem nwe_504 : nw 504 = Cond.code yX6_judge cX6_judge 4 (some .int) := rfl
theorem nwe_505 : nw 505 = Cond.code yX6_image cX6_image 1 (some .int) := rfl
theorem nwe_506 : nw 506 = Cond.code yX6_restore cX6_restore 1 (some .int) := rfl
theorem nwe_507 : nw 507 = Cond.code yX6_tell cX6_tell 2 (some .int) := rfl
theorem nwe_508 : nw 508 = Cond.fieldLink RX6 256 "PigNinths$Row" "numbers" "[I" := rfl
theorem nwe_509 : nw 509 = Cond.code yX6_check cX6_check 3 (some .int) := rfl
theorem nwe_510 : nw 510 = Cond.fieldLink RX6 257 "PigNinths$World" "hid" "[I" := rfl
theorem nwe_511 : nw 511 = Cond.code yX6_count cX6_count 2 (some .int) := rfl
theorem nwe_512 : nw 512 = Cond.code yX6_told cX6_told 2 (some .int) := rfl
theorem nwe_513 : nw 513 = Cond.code yX7_lays1 cX7_lays1 4 none := rfl
theorem nwe_514 : nw 514 = Cond.fieldLink RX7 7 "PigNinthsModel" "s" "[I" := rfl
theorem nwe_515 : nw 515 = Cond.methodLink RX7 1 objectInit := rfl
theorem nwe_516 : nw 516 = Cond.fieldLink RX7 13 "PigNinthsModel" "kept" "[I" := rfl
theorem nwe_517 : nw 517 = Cond.fieldLink RX7 16 "PigNinthsModel" "put" "[I" := rfl
theorem nwe_518 : nw 518 = Cond.fieldLink RX7 19 "PigNinthsModel" "errors" "[I" := rfl
theorem nwe_519 : nw 519 = Cond.fieldLink RX7 22 "PigNinthsModel" "step" "[I" := rfl
theorem nwe_520 : nw 520 = Cond.fieldLink RX7 25 "PigNinthsModel" "named" "[I" := rfl
theorem nwe_521 : nw 521 = Cond.fieldLink RX7 28 "PigNinthsModel" "pile" "[I" := rfl
theorem nwe_522 : nw 522 = Cond.fieldLink RX7 31 "PigNinthsModel" "dug" "[I" := rfl
theorem nwe_523 : nw 523 = Cond.fieldLink RX7 34 "PigNinthsModel" "fedToday" "I" := rfl
theorem nwe_524 : nw 524 = Cond.fieldLink RX7 38 "PigNinthsModel" "plain" "[I" := rfl
theorem nwe_525 : nw 525 = Cond.fieldLink RX7 41 "PigNinthsModel" "traded" "[I" := rfl
theorem nwe_526 : nw 526 = Cond.fieldLink RX7 44 "PigNinthsModel" "trace" "[I" := rfl
theorem nwe_527 : nw 527 = Cond.fieldLink RX7 47 "PigNinthsModel" "bits" "[I" := rfl
theorem nwe_528 : nw 528 = Cond.fieldLink RX7 50 "PigNinthsModel" "sizes" "[I" := rfl
theorem nwe_529 : nw 529 = Cond.fieldLink RX7 53 "PigNinthsModel" "number" "[I" := rfl
theorem nwe_530 : nw 530 = Cond.fieldLink RX7 56 "PigNinthsModel" "aside" "[I" := rfl
theorem nwe_531 : nw 531 = Cond.methodLink RX7 59 yX7_lays1 := rfl
theorem nwe_532 : nw 532 = Cond.instanceMethod yX7_lays1 := rfl
theorem nwe_533 : nw 533 = Cond.selects RX7 yX7_lays1 yX7_lays1 := rfl
theorem nwe_534 : nw 534 = Cond.initialized RX7 := rfl
theorem nwe_535 : nw 535 = Cond.code yX7_init cX7_init 3 none := rfl
theorem nwe_536 : nw 536 = Cond.code yX7_error cX7_error 2 (some .int) := rfl
theorem nwe_537 : nw 537 = Cond.constant RX7 63 (-1000000000) := rfl
theorem nwe_538 : nw 538 = Cond.code yX7_in cX7_in 3 (some .boolean) := rfl
theorem nwe_539 : nw 539 = Cond.code yX7_held cX7_held 3 (some .int) := rfl
theorem nwe_540 : nw 540 = Cond.code yX7_carry cX7_carry 4 none := rfl
theorem nwe_541 : nw 541 = Cond.code yX7_layDown cX7_layDown 1 none := rfl
theorem nwe_542 : nw 542 = Cond.methodLink RX7 64 yX7_carry := rfl
theorem nwe_543 : nw 543 = Cond.static yX7_carry := rfl
theorem nwe_544 : nw 544 = Cond.code yX7_layBack cX7_layBack 1 none := rfl
theorem nwe_545 : nw 545 = Cond.code yX7_isOak cX7_isOak 1 (some .boolean) := rfl
theorem nwe_546 : nw 546 = Cond.methodLink RX7 68 yX7_in := rfl
theorem nwe_547 : nw 547 = Cond.static yX7_in := rfl
theorem nwe_548 : nw 548 = Cond.code yX7_isFarmer cX7_isFarmer 1 (some .boolean) := rfl
theorem nwe_549 : nw 549 = Cond.code yX7_its cX7_its 3 (some .int) := rfl
theorem nwe_550 : nw 550 = Cond.code yX7_change1 cX7_change1 4 (some .int) := rfl
theorem nwe_551 : nw 551 = Cond.code yX7_allOf cX7_allOf 4 (some .int) := rfl
theorem nwe_552 : nw 552 = Cond.methodLink RX7 72 yX7_its := rfl
theorem nwe_553 : nw 553 = Cond.instanceMethod yX7_its := rfl
theorem nwe_554 : nw 554 = Cond.selects RX7 yX7_its yX7_its := rfl
theorem nwe_555 : nw 555 = Cond.code yX7_allUnder cX7_allUnder 3 (some .int) := rfl
theorem nwe_556 : nw 556 = Cond.code yX7_feed cX7_feed 5 (some .int) := rfl
theorem nwe_557 : nw 557 = Cond.constantLong RX7 80 (255) := rfl
theorem nwe_558 : nw 558 = Cond.methodLink RX7 76 yX7_error := rfl
theorem nwe_559 : nw 559 = Cond.instanceMethod yX7_error := rfl
theorem nwe_560 : nw 560 = Cond.selects RX7 yX7_error yX7_error := rfl
theorem nwe_561 : nw 561 = Cond.code yX7_look cX7_look 1 (some .int) := rfl
theorem nwe_562 : nw 562 = Cond.fieldLink RX7 82 "PigNinthsModel" "at" "I" := rfl
theorem nwe_563 : nw 563 = Cond.code yX7_isName cX7_isName 2 (some .boolean) := rfl
theorem nwe_564 : nw 564 = Cond.fieldLink RX7 85 "PigNinthsModel" "use" "I" := rfl
theorem nwe_565 : nw 565 = Cond.code yX7_step1 cX7_step1 3 none := rfl
theorem nwe_566 : nw 566 = Cond.fieldLink RX7 88 "PigNinthsModel" "steps" "I" := rfl
theorem nwe_567 : nw 567 = Cond.code yX7_opens cX7_opens 1 (some .boolean) := rfl
theorem nwe_568 : nw 568 = Cond.fieldLink RX7 115 "PigNinthsModel" "open" "I" := rfl
theorem nwe_569 : nw 569 = Cond.methodLink RX7 103 yX7_compared := rfl
theorem nwe_570 : nw 570 = Cond.instanceMethod yX7_compared := rfl
theorem nwe_571 : nw 571 = Cond.selects RX7 yX7_compared yX7_compared := rfl
theorem nwe_572 : nw 572 = Cond.methodLink RX7 95 yX7_look := rfl
theorem nwe_573 : nw 573 = Cond.instanceMethod yX7_look := rfl
theorem nwe_574 : nw 574 = Cond.selects RX7 yX7_look yX7_look := rfl
theorem nwe_575 : nw 575 = Cond.methodLink RX7 99 yX7_step1 := rfl
theorem nwe_576 : nw 576 = Cond.instanceMethod yX7_step1 := rfl
theorem nwe_577 : nw 577 = Cond.selects RX7 yX7_step1 yX7_step1 := rfl
theorem nwe_578 : nw 578 = Cond.code yX7_compared cX7_compared 2 (some .boolean) := rfl
theorem nwe_579 : nw 579 = Cond.methodLink RX7 106 yX7_sum := rfl
theorem nwe_580 : nw 580 = Cond.instanceMethod yX7_sum := rfl
theorem nwe_581 : nw 581 = Cond.selects RX7 yX7_sum yX7_sum := rfl
theorem nwe_582 : nw 582 = Cond.code yX7_one cX7_one 4 (some .boolean) := rfl
theorem nwe_583 : nw 583 = Cond.methodLink RX7 118 yX7_isName := rfl
theorem nwe_584 : nw 584 = Cond.instanceMethod yX7_isName := rfl
theorem nwe_585 : nw 585 = Cond.selects RX7 yX7_isName yX7_isName := rfl
theorem nwe_586 : nw 586 = Cond.methodLink RX7 122 yX7_opens := rfl
theorem nwe_587 : nw 587 = Cond.instanceMethod yX7_opens := rfl
theorem nwe_588 : nw 588 = Cond.selects RX7 yX7_opens yX7_opens := rfl
theorem nwe_589 : nw 589 = Cond.methodLink RX7 112 yX7_one := rfl
theorem nwe_590 : nw 590 = Cond.instanceMethod yX7_one := rfl
theorem nwe_591 : nw 591 = Cond.selects RX7 yX7_one yX7_one := rfl
theorem nwe_592 : nw 592 = Cond.methodLink RX7 125 yX7_whole := rfl
theorem nwe_593 : nw 593 = Cond.instanceMethod yX7_whole := rfl
theorem nwe_594 : nw 594 = Cond.selects RX7 yX7_whole yX7_whole := rfl
theorem nwe_595 : nw 595 = Cond.code yX7_product cX7_product 2 (some .boolean) := rfl
theorem nwe_596 : nw 596 = Cond.code yX7_sum cX7_sum 2 (some .boolean) := rfl
theorem nwe_597 : nw 597 = Cond.methodLink RX7 109 yX7_product := rfl
theorem nwe_598 : nw 598 = Cond.instanceMethod yX7_product := rfl
theorem nwe_599 : nw 599 = Cond.selects RX7 yX7_product yX7_product := rfl
theorem nwe_600 : nw 600 = Cond.code yX7_whole cX7_whole 1 (some .boolean) := rfl
theorem nwe_601 : nw 601 = Cond.methodLink RX7 91 yX7_both := rfl
theorem nwe_602 : nw 602 = Cond.instanceMethod yX7_both := rfl
theorem nwe_603 : nw 603 = Cond.selects RX7 yX7_both yX7_both := rfl
theorem nwe_604 : nw 604 = Cond.code yX7_both cX7_both 1 (some .boolean) := rfl
theorem nwe_605 : nw 605 = Cond.code yX7_hasText cX7_hasText 2 (some .boolean) := rfl
theorem nwe_606 : nw 606 = Cond.code yX7_text cX7_text 5 (some .int) := rfl
theorem nwe_607 : nw 607 = Cond.code yX7_untell cX7_untell 3 (some .int) := rfl
theorem nwe_608 : nw 608 = Cond.methodLink RX7 128 yX7_hasText := rfl
theorem nwe_609 : nw 609 = Cond.instanceMethod yX7_hasText := rfl
theorem nwe_610 : nw 610 = Cond.selects RX7 yX7_hasText yX7_hasText := rfl
theorem nwe_611 : nw 611 = Cond.code yX7_joined cX7_joined 3 (some .int) := rfl
theorem nwe_612 : nw 612 = Cond.code yX7_worked cX7_worked 7 (some .int) := rfl
theorem nwe_613 : nw 613 = Cond.methodLink RX7 131 yX7_joined := rfl
theorem nwe_614 : nw 614 = Cond.static yX7_joined := rfl
theorem nwe_615 : nw 615 = Cond.code yX7_feedsTold cX7_feedsTold 3 (some .int) := rfl
theorem nwe_616 : nw 616 = Cond.methodLink RX7 135 yX7_worked := rfl
theorem nwe_617 : nw 617 = Cond.instanceMethod yX7_worked := rfl
theorem nwe_618 : nw 618 = Cond.selects RX7 yX7_worked yX7_worked := rfl
theorem nwe_619 : nw 619 = Cond.methodLink RX7 138 yX7_feedsTold := rfl
theorem nwe_620 : nw 620 = Cond.instanceMethod yX7_feedsTold := rfl
theorem nwe_621 : nw 621 = Cond.selects RX7 yX7_feedsTold yX7_feedsTold := rfl
theorem nwe_622 : nw 622 = Cond.methodLink RX7 141 yX7_held := rfl
theorem nwe_623 : nw 623 = Cond.static yX7_held := rfl
theorem nwe_624 : nw 624 = Cond.code yX7_feeds cX7_feeds 5 (some .int) := rfl
theorem nwe_625 : nw 625 = Cond.code yX7_hides cX7_hides 3 (some .int) := rfl
theorem nwe_626 : nw 626 = Cond.code yX7_smell cX7_smell 2 (some .int) := rfl
theorem nwe_627 : nw 627 = Cond.code yX7_next cX7_next 2 (some .int) := rfl
theorem nwe_628 : nw 628 = Cond.code yX7_bySmell cX7_bySmell 6 (some .int) := rfl
theorem nwe_629 : nw 629 = Cond.methodLink RX7 144 yX7_smell := rfl
theorem nwe_630 : nw 630 = Cond.instanceMethod yX7_smell := rfl
theorem nwe_631 : nw 631 = Cond.selects RX7 yX7_smell yX7_smell := rfl
theorem nwe_632 : nw 632 = Cond.methodLink RX7 147 yX7_next := rfl
theorem nwe_633 : nw 633 = Cond.static yX7_next := rfl
theorem nwe_634 : nw 634 = Cond.code yX7_whoHas cX7_whoHas 2 (some .int) := rfl
theorem nwe_635 : nw 635 = Cond.methodLink RX7 150 yX7_bySmell := rfl
theorem nwe_636 : nw 636 = Cond.instanceMethod yX7_bySmell := rfl
theorem nwe_637 : nw 637 = Cond.selects RX7 yX7_bySmell yX7_bySmell := rfl
theorem nwe_638 : nw 638 = Cond.code yX7_digs cX7_digs 7 (some .int) := rfl
theorem nwe_639 : nw 639 = Cond.code yX7_gets cX7_gets 3 none := rfl
theorem nwe_640 : nw 640 = Cond.constant RX7 153 (99999999) := rfl
theorem nwe_641 : nw 641 = Cond.methodLink RX7 154 yX7_whoHas := rfl
theorem nwe_642 : nw 642 = Cond.instanceMethod yX7_whoHas := rfl
theorem nwe_643 : nw 643 = Cond.selects RX7 yX7_whoHas yX7_whoHas := rfl
theorem nwe_644 : nw 644 = Cond.methodLink RX7 157 yX7_digs := rfl
theorem nwe_645 : nw 645 = Cond.instanceMethod yX7_digs := rfl
theorem nwe_646 : nw 646 = Cond.selects RX7 yX7_digs yX7_digs := rfl
theorem nwe_647 : nw 647 = Cond.methodLink RX7 160 yX7_hides := rfl
theorem nwe_648 : nw 648 = Cond.instanceMethod yX7_hides := rfl
theorem nwe_649 : nw 649 = Cond.selects RX7 yX7_hides yX7_hides := rfl
theorem nwe_650 : nw 650 = Cond.methodLink RX7 163 yX7_gets := rfl
theorem nwe_651 : nw 651 = Cond.instanceMethod yX7_gets := rfl
theorem nwe_652 : nw 652 = Cond.selects RX7 yX7_gets yX7_gets := rfl
theorem nwe_653 : nw 653 = Cond.methodLink RX7 166 yX7_feeds := rfl
theorem nwe_654 : nw 654 = Cond.instanceMethod yX7_feeds := rfl
theorem nwe_655 : nw 655 = Cond.selects RX7 yX7_feeds yX7_feeds := rfl
theorem nwe_656 : nw 656 = Cond.code yX7_day cX7_day 6 (some .int) := rfl
theorem nwe_657 : nw 657 = Cond.methodLink RX7 169 yX7_day := rfl
theorem nwe_658 : nw 658 = Cond.instanceMethod yX7_day := rfl
theorem nwe_659 : nw 659 = Cond.selects RX7 yX7_day yX7_day := rfl
theorem nwe_660 : nw 660 = Cond.code yX7_go cX7_go 4 (some .int) := rfl
theorem nwe_661 : nw 661 = Cond.code yX7_oak cX7_oak 4 (some .int) := rfl
theorem nwe_662 : nw 662 = Cond.methodLink RX7 172 yX7_isOak := rfl
theorem nwe_663 : nw 663 = Cond.static yX7_isOak := rfl
theorem nwe_664 : nw 664 = Cond.methodLink RX7 175 yX7_change1 := rfl
theorem nwe_665 : nw 665 = Cond.instanceMethod yX7_change1 := rfl
theorem nwe_666 : nw 666 = Cond.selects RX7 yX7_change1 yX7_change1 := rfl
theorem nwe_667 : nw 667 = Cond.code yX7_oakIs cX7_oakIs 3 (some .int) := rfl
theorem nwe_668 : nw 668 = Cond.code yX7_rain cX7_rain 2 (some .int) := rfl
theorem nwe_669 : nw 669 = Cond.code yX7_farmer cX7_farmer 4 (some .int) := rfl
theorem nwe_670 : nw 670 = Cond.methodLink RX7 178 yX7_isFarmer := rfl
theorem nwe_671 : nw 671 = Cond.static yX7_isFarmer := rfl
theorem nwe_672 : nw 672 = Cond.code yX7_farmerIs cX7_farmerIs 3 (some .int) := rfl
theorem nwe_673 : nw 673 = Cond.code yX7_isUnder cX7_isUnder 2 (some .boolean) := rfl
theorem nwe_674 : nw 674 = Cond.code yX7_as cX7_as 3 (some .int) := rfl
theorem nwe_675 : nw 675 = Cond.methodLink RX7 181 yX7_isUnder := rfl
theorem nwe_676 : nw 676 = Cond.static yX7_isUnder := rfl
theorem nwe_677 : nw 677 = Cond.code yX7_trades cX7_trades 4 none := rfl
theorem nwe_678 : nw 678 = Cond.methodLink RX7 185 yX7_trades := rfl
theorem nwe_679 : nw 679 = Cond.instanceMethod yX7_trades := rfl
theorem nwe_680 : nw 680 = Cond.selects RX7 yX7_trades yX7_trades := rfl
theorem nwe_681 : nw 681 = Cond.code yX7_trade cX7_trade 3 (some .int) := rfl
theorem nwe_682 : nw 682 = Cond.code yX7_leash cX7_leash 4 (some .int) := rfl
theorem nwe_683 : nw 683 = Cond.code yX7_pig cX7_pig 3 (some .int) := rfl
theorem nwe_684 : nw 684 = Cond.code yX7_whyNotDays cX7_whyNotDays 2 (some .int) := rfl
theorem nwe_685 : nw 685 = Cond.methodLink RX7 188 yX7_whyNotDays := rfl
theorem nwe_686 : nw 686 = Cond.instanceMethod yX7_whyNotDays := rfl
theorem nwe_687 : nw 687 = Cond.selects RX7 yX7_whyNotDays yX7_whyNotDays := rfl
theorem nwe_688 : nw 688 = Cond.methodLink RX7 191 yX7_go := rfl
theorem nwe_689 : nw 689 = Cond.instanceMethod yX7_go := rfl
theorem nwe_690 : nw 690 = Cond.selects RX7 yX7_go yX7_go := rfl
theorem nwe_691 : nw 691 = Cond.code yX7_days cX7_days 3 (some .int) := rfl
theorem nwe_692 : nw 692 = Cond.code yX7_draw cX7_draw 1 (some .int) := rfl
theorem nwe_693 : nw 693 = Cond.constant RX7 194 (1103515245) := rfl
theorem nwe_694 : nw 694 = Cond.methodLink RX7 195 yX7_draw := rfl
theorem nwe_695 : nw 695 = Cond.instanceMethod yX7_draw := rfl
theorem nwe_696 : nw 696 = Cond.selects RX7 yX7_draw yX7_draw := rfl
theorem nwe_697 : nw 697 = Cond.code yX7_draws cX7_draws 5 (some .int) := rfl
theorem nwe_698 : nw 698 = Cond.code yX7_seed cX7_seed 2 (some .int) := rfl
theorem nwe_699 : nw 699 = Cond.methodLink RX7 198 yX7_layDown := rfl
theorem nwe_700 : nw 700 = Cond.instanceMethod yX7_layDown := rfl
theorem nwe_701 : nw 701 = Cond.selects RX7 yX7_layDown yX7_layDown := rfl
theorem nwe_702 : nw 702 = Cond.methodLink RX7 201 yX7_layBack := rfl
theorem nwe_703 : nw 703 = Cond.instanceMethod yX7_layBack := rfl
theorem nwe_704 : nw 704 = Cond.selects RX7 yX7_layBack yX7_layBack := rfl
theorem nwe_705 : nw 705 = Cond.code yX7_then cX7_then 6 (some .int) := rfl
theorem nwe_706 : nw 706 = Cond.code yX7_map cX7_map 3 (some .int) := rfl
theorem nwe_707 : nw 707 = Cond.methodLink RX7 204 yX7_allUnder := rfl
theorem nwe_708 : nw 708 = Cond.instanceMethod yX7_allUnder := rfl
theorem nwe_709 : nw 709 = Cond.selects RX7 yX7_allUnder yX7_allUnder := rfl
theorem nwe_710 : nw 710 = Cond.methodLink RX7 207 yX7_map := rfl
theorem nwe_711 : nw 711 = Cond.instanceMethod yX7_map := rfl
theorem nwe_712 : nw 712 = Cond.selects RX7 yX7_map yX7_map := rfl
theorem nwe_713 : nw 713 = Cond.code yX7_ahead cX7_ahead 5 (some .int) := rfl
theorem nwe_714 : nw 714 = Cond.code yX7_bestLeash cX7_bestLeash 8 (some .int) := rfl
theorem nwe_715 : nw 715 = Cond.methodLink RX7 210 yX7_allOf := rfl
theorem nwe_716 : nw 716 = Cond.instanceMethod yX7_allOf := rfl
theorem nwe_717 : nw 717 = Cond.selects RX7 yX7_allOf yX7_allOf := rfl
theorem nwe_718 : nw 718 = Cond.code yX7_bestFeed cX7_bestFeed 10 (some .int) := rfl
theorem nwe_719 : nw 719 = Cond.code yX7_behind cX7_behind 4 none := rfl
theorem nwe_720 : nw 720 = Cond.methodLink RX7 213 yX7_behind := rfl
theorem nwe_721 : nw 721 = Cond.instanceMethod yX7_behind := rfl
theorem nwe_722 : nw 722 = Cond.selects RX7 yX7_behind yX7_behind := rfl
theorem nwe_723 : nw 723 = Cond.code yX7_behindTrade cX7_behindTrade 3 none := rfl
theorem nwe_724 : nw 724 = Cond.methodLink RX7 217 yX7_behindTrade := rfl
theorem nwe_725 : nw 725 = Cond.instanceMethod yX7_behindTrade := rfl
theorem nwe_726 : nw 726 = Cond.selects RX7 yX7_behindTrade yX7_behindTrade := rfl
theorem nwe_727 : nw 727 = Cond.code yX7_gain cX7_gain 3 (some .int) := rfl
theorem nwe_728 : nw 728 = Cond.code yX7_bestTrade cX7_bestTrade 7 (some .int) := rfl
theorem nwe_729 : nw 729 = Cond.code yX7_share cX7_share 10 (some .int) := rfl
theorem nwe_730 : nw 730 = Cond.code yX7_explains cX7_explains 8 (some .boolean) := rfl
theorem nwe_731 : nw 731 = Cond.code yX7_isSheet cX7_isSheet 1 (some .boolean) := rfl
theorem nwe_732 : nw 732 = Cond.methodLink RX7 220 yX7_isSheet := rfl
theorem nwe_733 : nw 733 = Cond.static yX7_isSheet := rfl
theorem nwe_734 : nw 734 = Cond.methodLink RX7 223 yX7_explains := rfl
theorem nwe_735 : nw 735 = Cond.instanceMethod yX7_explains := rfl
theorem nwe_736 : nw 736 = Cond.selects RX7 yX7_explains yX7_explains := rfl
theorem nwe_737 : nw 737 = Cond.code yX7_whoHid cX7_whoHid 9 (some .int) := rfl
theorem nwe_738 : nw 738 = Cond.code yX7_begins cX7_begins 2 none := rfl
theorem nwe_739 : nw 739 = Cond.fieldLink RX7 227 "PigNinthsModel" "traced" "I" := rfl
theorem nwe_740 : nw 740 = Cond.code yX7_above cX7_above 1 (some .int) := rfl
theorem nwe_741 : nw 741 = Cond.code yX7_kindNow cX7_kindNow 1 (some .int) := rfl
theorem nwe_742 : nw 742 = Cond.fieldLink RX7 230 "PigNinthsModel" "speaks" "I" := rfl
theorem nwe_743 : nw 743 = Cond.code yX7_mNow cX7_mNow 1 (some .int) := rfl
theorem nwe_744 : nw 744 = Cond.code yX7_leadsAs cX7_leadsAs 3 (some .int) := rfl
theorem nwe_745 : nw 745 = Cond.methodLink RX7 233 yX7_begins := rfl
theorem nwe_746 : nw 746 = Cond.instanceMethod yX7_begins := rfl
theorem nwe_747 : nw 747 = Cond.selects RX7 yX7_begins yX7_begins := rfl
theorem nwe_748 : nw 748 = Cond.methodLink RX7 237 yX7_above := rfl
theorem nwe_749 : nw 749 = Cond.static yX7_above := rfl
theorem nwe_750 : nw 750 = Cond.methodLink RX7 240 yX7_leadsAs := rfl
theorem nwe_751 : nw 751 = Cond.instanceMethod yX7_leadsAs := rfl
theorem nwe_752 : nw 752 = Cond.selects RX7 yX7_leadsAs yX7_leadsAs := rfl
theorem nwe_753 : nw 753 = Cond.methodLink RX7 243 yX7_kindNow := rfl
theorem nwe_754 : nw 754 = Cond.instanceMethod yX7_kindNow := rfl
theorem nwe_755 : nw 755 = Cond.selects RX7 yX7_kindNow yX7_kindNow := rfl
theorem nwe_756 : nw 756 = Cond.methodLink RX7 246 yX7_feedsAs := rfl
theorem nwe_757 : nw 757 = Cond.instanceMethod yX7_feedsAs := rfl
theorem nwe_758 : nw 758 = Cond.selects RX7 yX7_feedsAs yX7_feedsAs := rfl
theorem nwe_759 : nw 759 = Cond.methodLink RX7 249 yX7_mNow := rfl
theorem nwe_760 : nw 760 = Cond.instanceMethod yX7_mNow := rfl
theorem nwe_761 : nw 761 = Cond.selects RX7 yX7_mNow yX7_mNow := rfl
theorem nwe_762 : nw 762 = Cond.code yX7_feedsAs cX7_feedsAs 3 (some .int) := rfl
theorem nwe_763 : nw 763 = Cond.methodLink RX7 252 yX7_hidesAs := rfl
theorem nwe_764 : nw 764 = Cond.instanceMethod yX7_hidesAs := rfl
theorem nwe_765 : nw 765 = Cond.selects RX7 yX7_hidesAs yX7_hidesAs := rfl
theorem nwe_766 : nw 766 = Cond.code yX7_hidesAs cX7_hidesAs 3 (some .int) := rfl
theorem nwe_767 : nw 767 = Cond.fieldLink RX7 255 "PigNinthsModel" "isParted" "Z" := rfl
theorem nwe_768 : nw 768 = Cond.methodLink RX7 259 yX7_partsAs := rfl
theorem nwe_769 : nw 769 = Cond.instanceMethod yX7_partsAs := rfl
theorem nwe_770 : nw 770 = Cond.selects RX7 yX7_partsAs yX7_partsAs := rfl
theorem nwe_771 : nw 771 = Cond.code yX7_partsAs cX7_partsAs 5 (some .int) := rfl
theorem nwe_772 : nw 772 = Cond.code yX7_voice cX7_voice 6 (some .int) := rfl
theorem nwe_773 : nw 773 = Cond.code yX7_body cX7_body 2 (some .int) := rfl
theorem nwe_774 : nw 774 = Cond.code yX7_sheet cX7_sheet 5 (some .int) := rfl
theorem nwe_775 : nw 775 = Cond.code yX7_put cX7_put 5 (some .int) := rfl
theorem nwe_776 : nw 776 = Cond.code yX7_move cX7_move 7 (some .int) := rfl
theorem nwe_777 : nw 777 = Cond.code yX7_lacks cX7_lacks 2 (some .int) := rfl
theorem nwe_778 : nw 778 = Cond.code yX7_unders cX7_unders 4 (some .int) := rfl
theorem nwe_779 : nw 779 = Cond.methodLink RX7 262 yX7_lacks := rfl
theorem nwe_780 : nw 780 = Cond.instanceMethod yX7_lacks := rfl
theorem nwe_781 : nw 781 = Cond.selects RX7 yX7_lacks yX7_lacks := rfl
theorem nwe_782 : nw 782 = Cond.code yX7_judge cX7_judge 5 (some .int) := rfl
theorem nwe_783 : nw 783 = Cond.code yX7_image cX7_image 1 (some .int) := rfl
theorem nwe_784 : nw 784 = Cond.fieldLink RX7 265 "PigNinthsModel" "images" "I" := rfl
theorem nwe_785 : nw 785 = Cond.code yX7_restore cX7_restore 1 (some .int) := rfl
theorem nwe_786 : nw 786 = Cond.code yX7_tell cX7_tell 2 (some .int) := rfl
theorem nwe_787 : nw 787 = Cond.code yX7_check cX7_check 4 (some .int) := rfl
theorem nwe_788 : nw 788 = Cond.code yX7_count cX7_count 2 (some .int) := rfl
theorem nwe_789 : nw 789 = Cond.code yX7_told cX7_told 2 (some .int) := rfl
theorem nwe_790 : nw 790 = Cond.code yJ9_abs_0f7a4 cJ9_abs_0f7a4 1 (some .int) := rfl
theorem nwe_791 : nw 791 = Cond.code yJ9_max_7cf53 cJ9_max_7cf53 2 (some .int) := rfl
theorem nwe_792 : nw 792 = Cond.code yJ9_min_7cf53 cJ9_min_7cf53 2 (some .int) := rfl
theorem nwe_793 : nw 793 = Cond.classLink RL 7 RX6 := rfl
theorem nwe_794 : nw 794 = Cond.instantiable RX6 15 := rfl
theorem nwe_795 : nw 795 = Cond.classLink RL 10 RX7 := rfl
theorem nwe_796 : nw 796 = Cond.instantiable RX7 24 := rfl
theorem nwe_797 : nw 797 = Cond.constantLong RL 52 (4294967295) := rfl
theorem nwe_798 : nw 798 = Cond.methodLink RL 9 yX6_init := rfl
theorem nwe_799 : nw 799 = Cond.instanceMethod yX6_init := rfl
theorem nwe_800 : nw 800 = Cond.methodLink RL 12 yX7_init := rfl
theorem nwe_801 : nw 801 = Cond.instanceMethod yX7_init := rfl
theorem nwe_802 : nw 802 = Cond.methodLink RL 13 yX6_oak := rfl
theorem nwe_803 : nw 803 = Cond.instanceMethod yX6_oak := rfl
theorem nwe_804 : nw 804 = Cond.selects RX6 yX6_oak yX6_oak := rfl
theorem nwe_805 : nw 805 = Cond.methodLink RL 17 yX7_oak := rfl
theorem nwe_806 : nw 806 = Cond.instanceMethod yX7_oak := rfl
theorem nwe_807 : nw 807 = Cond.selects RX7 yX7_oak yX7_oak := rfl
theorem nwe_808 : nw 808 = Cond.methodLink RL 18 yX6_oakIs := rfl
theorem nwe_809 : nw 809 = Cond.instanceMethod yX6_oakIs := rfl
theorem nwe_810 : nw 810 = Cond.selects RX6 yX6_oakIs yX6_oakIs := rfl
theorem nwe_811 : nw 811 = Cond.methodLink RL 22 yX7_oakIs := rfl
theorem nwe_812 : nw 812 = Cond.instanceMethod yX7_oakIs := rfl
theorem nwe_813 : nw 813 = Cond.selects RX7 yX7_oakIs yX7_oakIs := rfl
theorem nwe_814 : nw 814 = Cond.methodLink RL 23 yX6_rain := rfl
theorem nwe_815 : nw 815 = Cond.instanceMethod yX6_rain := rfl
theorem nwe_816 : nw 816 = Cond.selects RX6 yX6_rain yX6_rain := rfl
theorem nwe_817 : nw 817 = Cond.methodLink RL 27 yX7_rain := rfl
theorem nwe_818 : nw 818 = Cond.instanceMethod yX7_rain := rfl
theorem nwe_819 : nw 819 = Cond.selects RX7 yX7_rain yX7_rain := rfl
theorem nwe_820 : nw 820 = Cond.methodLink RL 28 yX6_farmer := rfl
theorem nwe_821 : nw 821 = Cond.instanceMethod yX6_farmer := rfl
theorem nwe_822 : nw 822 = Cond.selects RX6 yX6_farmer yX6_farmer := rfl
theorem nwe_823 : nw 823 = Cond.methodLink RL 31 yX7_farmer := rfl
theorem nwe_824 : nw 824 = Cond.instanceMethod yX7_farmer := rfl
theorem nwe_825 : nw 825 = Cond.selects RX7 yX7_farmer yX7_farmer := rfl
theorem nwe_826 : nw 826 = Cond.methodLink RL 32 yX6_farmerIs := rfl
theorem nwe_827 : nw 827 = Cond.instanceMethod yX6_farmerIs := rfl
theorem nwe_828 : nw 828 = Cond.selects RX6 yX6_farmerIs yX6_farmerIs := rfl
theorem nwe_829 : nw 829 = Cond.methodLink RL 35 yX7_farmerIs := rfl
theorem nwe_830 : nw 830 = Cond.instanceMethod yX7_farmerIs := rfl
theorem nwe_831 : nw 831 = Cond.selects RX7 yX7_farmerIs yX7_farmerIs := rfl
theorem nwe_832 : nw 832 = Cond.methodLink RL 36 yX6_as := rfl
theorem nwe_833 : nw 833 = Cond.instanceMethod yX6_as := rfl
theorem nwe_834 : nw 834 = Cond.selects RX6 yX6_as yX6_as := rfl
theorem nwe_835 : nw 835 = Cond.methodLink RL 39 yX7_as := rfl
theorem nwe_836 : nw 836 = Cond.instanceMethod yX7_as := rfl
theorem nwe_837 : nw 837 = Cond.selects RX7 yX7_as yX7_as := rfl
theorem nwe_838 : nw 838 = Cond.methodLink RL 40 yX6_trade := rfl
theorem nwe_839 : nw 839 = Cond.instanceMethod yX6_trade := rfl
theorem nwe_840 : nw 840 = Cond.selects RX6 yX6_trade yX6_trade := rfl
theorem nwe_841 : nw 841 = Cond.methodLink RL 43 yX7_trade := rfl
theorem nwe_842 : nw 842 = Cond.instanceMethod yX7_trade := rfl
theorem nwe_843 : nw 843 = Cond.selects RX7 yX7_trade yX7_trade := rfl
theorem nwe_844 : nw 844 = Cond.methodLink RL 44 yX6_leash := rfl
theorem nwe_845 : nw 845 = Cond.instanceMethod yX6_leash := rfl
theorem nwe_846 : nw 846 = Cond.selects RX6 yX6_leash yX6_leash := rfl
theorem nwe_847 : nw 847 = Cond.methodLink RL 47 yX7_leash := rfl
theorem nwe_848 : nw 848 = Cond.instanceMethod yX7_leash := rfl
theorem nwe_849 : nw 849 = Cond.selects RX7 yX7_leash yX7_leash := rfl
theorem nwe_850 : nw 850 = Cond.methodLink RL 48 yX6_pig := rfl
theorem nwe_851 : nw 851 = Cond.instanceMethod yX6_pig := rfl
theorem nwe_852 : nw 852 = Cond.selects RX6 yX6_pig yX6_pig := rfl
theorem nwe_853 : nw 853 = Cond.methodLink RL 51 yX7_pig := rfl
theorem nwe_854 : nw 854 = Cond.instanceMethod yX7_pig := rfl
theorem nwe_855 : nw 855 = Cond.selects RX7 yX7_pig yX7_pig := rfl
theorem nwe_856 : nw 856 = Cond.methodLink RL 54 yX6_feed := rfl
theorem nwe_857 : nw 857 = Cond.instanceMethod yX6_feed := rfl
theorem nwe_858 : nw 858 = Cond.selects RX6 yX6_feed yX6_feed := rfl
theorem nwe_859 : nw 859 = Cond.methodLink RL 58 yX7_feed := rfl
theorem nwe_860 : nw 860 = Cond.instanceMethod yX7_feed := rfl
theorem nwe_861 : nw 861 = Cond.selects RX7 yX7_feed yX7_feed := rfl
theorem nwe_862 : nw 862 = Cond.methodLink RL 59 yX6_text := rfl
theorem nwe_863 : nw 863 = Cond.instanceMethod yX6_text := rfl
theorem nwe_864 : nw 864 = Cond.selects RX6 yX6_text yX6_text := rfl
theorem nwe_865 : nw 865 = Cond.methodLink RL 62 yX7_text := rfl
theorem nwe_866 : nw 866 = Cond.instanceMethod yX7_text := rfl
theorem nwe_867 : nw 867 = Cond.selects RX7 yX7_text yX7_text := rfl
theorem nwe_868 : nw 868 = Cond.methodLink RL 63 yX6_untell := rfl
theorem nwe_869 : nw 869 = Cond.instanceMethod yX6_untell := rfl
theorem nwe_870 : nw 870 = Cond.selects RX6 yX6_untell yX6_untell := rfl
theorem nwe_871 : nw 871 = Cond.methodLink RL 66 yX7_untell := rfl
theorem nwe_872 : nw 872 = Cond.instanceMethod yX7_untell := rfl
theorem nwe_873 : nw 873 = Cond.selects RX7 yX7_untell yX7_untell := rfl
theorem nwe_874 : nw 874 = Cond.methodLink RL 67 yX6_days := rfl
theorem nwe_875 : nw 875 = Cond.instanceMethod yX6_days := rfl
theorem nwe_876 : nw 876 = Cond.selects RX6 yX6_days yX6_days := rfl
theorem nwe_877 : nw 877 = Cond.methodLink RL 70 yX7_days := rfl
theorem nwe_878 : nw 878 = Cond.instanceMethod yX7_days := rfl
theorem nwe_879 : nw 879 = Cond.selects RX7 yX7_days yX7_days := rfl
theorem nwe_880 : nw 880 = Cond.methodLink RL 71 yX6_draws := rfl
theorem nwe_881 : nw 881 = Cond.instanceMethod yX6_draws := rfl
theorem nwe_882 : nw 882 = Cond.selects RX6 yX6_draws yX6_draws := rfl
theorem nwe_883 : nw 883 = Cond.methodLink RL 74 yX7_draws := rfl
theorem nwe_884 : nw 884 = Cond.instanceMethod yX7_draws := rfl
theorem nwe_885 : nw 885 = Cond.selects RX7 yX7_draws yX7_draws := rfl
theorem nwe_886 : nw 886 = Cond.methodLink RL 75 yX6_seed := rfl
theorem nwe_887 : nw 887 = Cond.instanceMethod yX6_seed := rfl
theorem nwe_888 : nw 888 = Cond.selects RX6 yX6_seed yX6_seed := rfl
theorem nwe_889 : nw 889 = Cond.methodLink RL 78 yX7_seed := rfl
theorem nwe_890 : nw 890 = Cond.instanceMethod yX7_seed := rfl
theorem nwe_891 : nw 891 = Cond.selects RX7 yX7_seed yX7_seed := rfl
theorem nwe_892 : nw 892 = Cond.methodLink RL 79 yX6_then := rfl
theorem nwe_893 : nw 893 = Cond.instanceMethod yX6_then := rfl
theorem nwe_894 : nw 894 = Cond.selects RX6 yX6_then yX6_then := rfl
theorem nwe_895 : nw 895 = Cond.methodLink RL 82 yX7_then := rfl
theorem nwe_896 : nw 896 = Cond.instanceMethod yX7_then := rfl
theorem nwe_897 : nw 897 = Cond.selects RX7 yX7_then yX7_then := rfl
theorem nwe_898 : nw 898 = Cond.methodLink RL 83 yX6_ahead := rfl
theorem nwe_899 : nw 899 = Cond.instanceMethod yX6_ahead := rfl
theorem nwe_900 : nw 900 = Cond.selects RX6 yX6_ahead yX6_ahead := rfl
theorem nwe_901 : nw 901 = Cond.methodLink RL 86 yX7_ahead := rfl
theorem nwe_902 : nw 902 = Cond.instanceMethod yX7_ahead := rfl
theorem nwe_903 : nw 903 = Cond.selects RX7 yX7_ahead yX7_ahead := rfl
theorem nwe_904 : nw 904 = Cond.methodLink RL 87 yX6_bestLeash := rfl
theorem nwe_905 : nw 905 = Cond.instanceMethod yX6_bestLeash := rfl
theorem nwe_906 : nw 906 = Cond.selects RX6 yX6_bestLeash yX6_bestLeash := rfl
theorem nwe_907 : nw 907 = Cond.methodLink RL 90 yX7_bestLeash := rfl
theorem nwe_908 : nw 908 = Cond.instanceMethod yX7_bestLeash := rfl
theorem nwe_909 : nw 909 = Cond.selects RX7 yX7_bestLeash yX7_bestLeash := rfl
theorem nwe_910 : nw 910 = Cond.methodLink RL 91 yX6_bestFeed := rfl
theorem nwe_911 : nw 911 = Cond.instanceMethod yX6_bestFeed := rfl
theorem nwe_912 : nw 912 = Cond.selects RX6 yX6_bestFeed yX6_bestFeed := rfl
theorem nwe_913 : nw 913 = Cond.methodLink RL 94 yX7_bestFeed := rfl
theorem nwe_914 : nw 914 = Cond.instanceMethod yX7_bestFeed := rfl
theorem nwe_915 : nw 915 = Cond.selects RX7 yX7_bestFeed yX7_bestFeed := rfl
theorem nwe_916 : nw 916 = Cond.methodLink RL 95 yX6_gain := rfl
theorem nwe_917 : nw 917 = Cond.instanceMethod yX6_gain := rfl
theorem nwe_918 : nw 918 = Cond.selects RX6 yX6_gain yX6_gain := rfl
theorem nwe_919 : nw 919 = Cond.methodLink RL 98 yX7_gain := rfl
theorem nwe_920 : nw 920 = Cond.instanceMethod yX7_gain := rfl
theorem nwe_921 : nw 921 = Cond.selects RX7 yX7_gain yX7_gain := rfl
theorem nwe_922 : nw 922 = Cond.methodLink RL 99 yX6_bestTrade := rfl
theorem nwe_923 : nw 923 = Cond.instanceMethod yX6_bestTrade := rfl
theorem nwe_924 : nw 924 = Cond.selects RX6 yX6_bestTrade yX6_bestTrade := rfl
theorem nwe_925 : nw 925 = Cond.methodLink RL 103 yX7_bestTrade := rfl
theorem nwe_926 : nw 926 = Cond.instanceMethod yX7_bestTrade := rfl
theorem nwe_927 : nw 927 = Cond.selects RX7 yX7_bestTrade yX7_bestTrade := rfl
theorem nwe_928 : nw 928 = Cond.methodLink RL 104 yX6_share := rfl
theorem nwe_929 : nw 929 = Cond.instanceMethod yX6_share := rfl
theorem nwe_930 : nw 930 = Cond.selects RX6 yX6_share yX6_share := rfl
theorem nwe_931 : nw 931 = Cond.methodLink RL 107 yX7_share := rfl
theorem nwe_932 : nw 932 = Cond.instanceMethod yX7_share := rfl
theorem nwe_933 : nw 933 = Cond.selects RX7 yX7_share yX7_share := rfl
theorem nwe_934 : nw 934 = Cond.methodLink RL 108 yX6_whoHid := rfl
theorem nwe_935 : nw 935 = Cond.instanceMethod yX6_whoHid := rfl
theorem nwe_936 : nw 936 = Cond.selects RX6 yX6_whoHid yX6_whoHid := rfl
theorem nwe_937 : nw 937 = Cond.methodLink RL 111 yX7_whoHid := rfl
theorem nwe_938 : nw 938 = Cond.instanceMethod yX7_whoHid := rfl
theorem nwe_939 : nw 939 = Cond.selects RX7 yX7_whoHid yX7_whoHid := rfl
theorem nwe_940 : nw 940 = Cond.methodLink RL 112 yX6_voice := rfl
theorem nwe_941 : nw 941 = Cond.instanceMethod yX6_voice := rfl
theorem nwe_942 : nw 942 = Cond.selects RX6 yX6_voice yX6_voice := rfl
theorem nwe_943 : nw 943 = Cond.methodLink RL 115 yX7_voice := rfl
theorem nwe_944 : nw 944 = Cond.instanceMethod yX7_voice := rfl
theorem nwe_945 : nw 945 = Cond.selects RX7 yX7_voice yX7_voice := rfl
theorem nwe_946 : nw 946 = Cond.methodLink RL 116 yX6_body := rfl
theorem nwe_947 : nw 947 = Cond.instanceMethod yX6_body := rfl
theorem nwe_948 : nw 948 = Cond.selects RX6 yX6_body yX6_body := rfl
theorem nwe_949 : nw 949 = Cond.methodLink RL 119 yX7_body := rfl
theorem nwe_950 : nw 950 = Cond.instanceMethod yX7_body := rfl
theorem nwe_951 : nw 951 = Cond.selects RX7 yX7_body yX7_body := rfl
theorem nwe_952 : nw 952 = Cond.methodLink RL 120 yX6_sheet := rfl
theorem nwe_953 : nw 953 = Cond.instanceMethod yX6_sheet := rfl
theorem nwe_954 : nw 954 = Cond.selects RX6 yX6_sheet yX6_sheet := rfl
theorem nwe_955 : nw 955 = Cond.methodLink RL 123 yX7_sheet := rfl
theorem nwe_956 : nw 956 = Cond.instanceMethod yX7_sheet := rfl
theorem nwe_957 : nw 957 = Cond.selects RX7 yX7_sheet yX7_sheet := rfl
theorem nwe_958 : nw 958 = Cond.methodLink RL 124 yX6_put := rfl
theorem nwe_959 : nw 959 = Cond.instanceMethod yX6_put := rfl
theorem nwe_960 : nw 960 = Cond.selects RX6 yX6_put yX6_put := rfl
theorem nwe_961 : nw 961 = Cond.methodLink RL 127 yX7_put := rfl
theorem nwe_962 : nw 962 = Cond.instanceMethod yX7_put := rfl
theorem nwe_963 : nw 963 = Cond.selects RX7 yX7_put yX7_put := rfl
theorem nwe_964 : nw 964 = Cond.methodLink RL 128 yX6_move := rfl
theorem nwe_965 : nw 965 = Cond.instanceMethod yX6_move := rfl
theorem nwe_966 : nw 966 = Cond.selects RX6 yX6_move yX6_move := rfl
theorem nwe_967 : nw 967 = Cond.methodLink RL 132 yX7_move := rfl
theorem nwe_968 : nw 968 = Cond.instanceMethod yX7_move := rfl
theorem nwe_969 : nw 969 = Cond.selects RX7 yX7_move yX7_move := rfl
theorem nwe_970 : nw 970 = Cond.methodLink RL 133 yX6_unders := rfl
theorem nwe_971 : nw 971 = Cond.instanceMethod yX6_unders := rfl
theorem nwe_972 : nw 972 = Cond.selects RX6 yX6_unders yX6_unders := rfl
theorem nwe_973 : nw 973 = Cond.methodLink RL 136 yX7_unders := rfl
theorem nwe_974 : nw 974 = Cond.instanceMethod yX7_unders := rfl
theorem nwe_975 : nw 975 = Cond.selects RX7 yX7_unders yX7_unders := rfl
theorem nwe_976 : nw 976 = Cond.methodLink RL 137 yX6_judge := rfl
theorem nwe_977 : nw 977 = Cond.instanceMethod yX6_judge := rfl
theorem nwe_978 : nw 978 = Cond.selects RX6 yX6_judge yX6_judge := rfl
theorem nwe_979 : nw 979 = Cond.methodLink RL 140 yX7_judge := rfl
theorem nwe_980 : nw 980 = Cond.instanceMethod yX7_judge := rfl
theorem nwe_981 : nw 981 = Cond.selects RX7 yX7_judge yX7_judge := rfl
theorem nwe_982 : nw 982 = Cond.methodLink RL 141 yX6_image := rfl
theorem nwe_983 : nw 983 = Cond.instanceMethod yX6_image := rfl
theorem nwe_984 : nw 984 = Cond.selects RX6 yX6_image yX6_image := rfl
theorem nwe_985 : nw 985 = Cond.methodLink RL 144 yX7_image := rfl
theorem nwe_986 : nw 986 = Cond.instanceMethod yX7_image := rfl
theorem nwe_987 : nw 987 = Cond.selects RX7 yX7_image yX7_image := rfl
theorem nwe_988 : nw 988 = Cond.methodLink RL 145 yX6_restore := rfl
theorem nwe_989 : nw 989 = Cond.instanceMethod yX6_restore := rfl
theorem nwe_990 : nw 990 = Cond.selects RX6 yX6_restore yX6_restore := rfl
theorem nwe_991 : nw 991 = Cond.methodLink RL 148 yX7_restore := rfl
theorem nwe_992 : nw 992 = Cond.instanceMethod yX7_restore := rfl
theorem nwe_993 : nw 993 = Cond.selects RX7 yX7_restore yX7_restore := rfl
theorem nwe_994 : nw 994 = Cond.methodLink RL 149 yX6_tell := rfl
theorem nwe_995 : nw 995 = Cond.instanceMethod yX6_tell := rfl
theorem nwe_996 : nw 996 = Cond.selects RX6 yX6_tell yX6_tell := rfl
theorem nwe_997 : nw 997 = Cond.methodLink RL 152 yX7_tell := rfl
theorem nwe_998 : nw 998 = Cond.instanceMethod yX7_tell := rfl
theorem nwe_999 : nw 999 = Cond.selects RX7 yX7_tell yX7_tell := rfl
theorem nwe_1000 : nw 1000 = Cond.methodLink RL 153 yX6_check := rfl
theorem nwe_1001 : nw 1001 = Cond.instanceMethod yX6_check := rfl
theorem nwe_1002 : nw 1002 = Cond.selects RX6 yX6_check yX6_check := rfl
theorem nwe_1003 : nw 1003 = Cond.methodLink RL 156 yX7_check := rfl
theorem nwe_1004 : nw 1004 = Cond.instanceMethod yX7_check := rfl
theorem nwe_1005 : nw 1005 = Cond.selects RX7 yX7_check yX7_check := rfl
theorem nwe_1006 : nw 1006 = Cond.methodLink RL 157 yX6_count := rfl
theorem nwe_1007 : nw 1007 = Cond.instanceMethod yX6_count := rfl
theorem nwe_1008 : nw 1008 = Cond.selects RX6 yX6_count yX6_count := rfl
theorem nwe_1009 : nw 1009 = Cond.methodLink RL 160 yX7_count := rfl
theorem nwe_1010 : nw 1010 = Cond.instanceMethod yX7_count := rfl
theorem nwe_1011 : nw 1011 = Cond.selects RX7 yX7_count yX7_count := rfl
theorem nwe_1012 : nw 1012 = Cond.methodLink RL 161 yX6_told := rfl
theorem nwe_1013 : nw 1013 = Cond.instanceMethod yX6_told := rfl
theorem nwe_1014 : nw 1014 = Cond.selects RX6 yX6_told yX6_told := rfl
theorem nwe_1015 : nw 1015 = Cond.methodLink RL 164 yX7_told := rfl
theorem nwe_1016 : nw 1016 = Cond.instanceMethod yX7_told := rfl
theorem nwe_1017 : nw 1017 = Cond.selects RX7 yX7_told yX7_told := rfl
def nwp_X00 : List Nat := [0, 1, 2, 3]
theorem nwl_X00 : nwp_X00.map nw = wsX00 := (show _ = [u_lay RX0 TX0 0, u_lay RX0 TX0 1, u_lay RX0 TX0 2, u_lay RX0 TX0 3] from nw_c nwe_0 (nw_c nwe_1 (nw_c nwe_2 (nw_c nwe_3 (nw_n)))))
def nwp_X10 : List Nat := [4, 5]
theorem nwl_X10 : nwp_X10.map nw = wsX10 := (show _ = [u_lay RX1 TX1 0, u_lay RX1 TX1 1] from nw_c nwe_4 (nw_c nwe_5 (nw_n)))
def nwp_X20 : List Nat := [6, 7, 8]
theorem nwl_X20 : nwp_X20.map nw = wsX20 := (show _ = [u_lay RX2 TX2 0, u_lay RX2 TX2 1, u_lay RX2 TX2 2] from nw_c nwe_6 (nw_c nwe_7 (nw_c nwe_8 (nw_n))))
def nwp_X30 : List Nat := [9, 10]
theorem nwl_X30 : nwp_X30.map nw = wsX30 := (show _ = [u_lay RX3 TX3 0, u_lay RX3 TX3 1] from nw_c nwe_9 (nw_c nwe_10 (nw_n)))
def nwp_X40 : List Nat := [11, 12, 13, 14, 15]
theorem nwl_X40 : nwp_X40.map nw = wsX40 := (show _ = [u_lay RX4 TX4 0, u_lay RX4 TX4 1, u_lay RX4 TX4 2, u_lay RX4 TX4 3, u_lay RX4 TX4 4] from nw_c nwe_11 (nw_c nwe_12 (nw_c nwe_13 (nw_c nwe_14 (nw_c nwe_15 (nw_n))))))
def nwp_X50 : List Nat := [16, 17, 18, 19, 20, 21, 22, 23, 24, 25, 26, 27, 28, 29, 30, 31, 32]
theorem nwl_X50 : nwp_X50.map nw = wsX50 := (show _ = [u_lay RX5 TX5 0, u_lay RX5 TX5 1, u_lay RX5 TX5 2, u_lay RX5 TX5 3, u_lay RX5 TX5 4, u_lay RX5 TX5 5, u_lay RX5 TX5 6, u_lay RX5 TX5 7, u_lay RX5 TX5 8, u_lay RX5 TX5 9, u_lay RX5 TX5 10, u_lay RX5 TX5 11, u_lay RX5 TX5 12, u_lay RX5 TX5 13, u_lay RX5 TX5 14, u_lay RX5 TX5 15, u_lay RX5 TX5 16] from nw_c nwe_16 (nw_c nwe_17 (nw_c nwe_18 (nw_c nwe_19 (nw_c nwe_20 (nw_c nwe_21 (nw_c nwe_22 (nw_c nwe_23 (nw_c nwe_24 (nw_c nwe_25 (nw_c nwe_26 (nw_c nwe_27 (nw_c nwe_28 (nw_c nwe_29 (nw_c nwe_30 (nw_c nwe_31 (nw_c nwe_32 (nw_n))))))))))))))))))
def nwp_X60 : List Nat := [33, 34, 35, 36, 37, 38, 39, 40, 41, 42, 43, 44, 45, 46, 47]
theorem nwl_X60 : nwp_X60.map nw = wsX60 := (show _ = [u_lay RX6 TX6 0, u_lay RX6 TX6 1, u_lay RX6 TX6 2, u_lay RX6 TX6 3, u_lay RX6 TX6 4, u_lay RX6 TX6 5, u_lay RX6 TX6 6, u_lay RX6 TX6 7, u_lay RX6 TX6 8, u_lay RX6 TX6 9, u_lay RX6 TX6 10, u_lay RX6 TX6 11, u_lay RX6 TX6 12, u_lay RX6 TX6 13, u_lay RX6 TX6 14] from nw_c nwe_33 (nw_c nwe_34 (nw_c nwe_35 (nw_c nwe_36 (nw_c nwe_37 (nw_c nwe_38 (nw_c nwe_39 (nw_c nwe_40 (nw_c nwe_41 (nw_c nwe_42 (nw_c nwe_43 (nw_c nwe_44 (nw_c nwe_45 (nw_c nwe_46 (nw_c nwe_47 (nw_n))))))))))))))))
def nwp_X70 : List Nat := [48, 49, 50, 51, 52, 53, 54, 55, 56, 57, 58, 59, 60, 61, 62, 63, 64, 65, 66, 67, 68, 69, 70, 71]
theorem nwl_X70 : nwp_X70.map nw = wsX70 := (show _ = [u_lay RX7 TX7 0, u_lay RX7 TX7 1, u_lay RX7 TX7 2, u_lay RX7 TX7 3, u_lay RX7 TX7 4, u_lay RX7 TX7 5, u_lay RX7 TX7 6, u_lay RX7 TX7 7, u_lay RX7 TX7 8, u_lay RX7 TX7 9, u_lay RX7 TX7 10, u_lay RX7 TX7 11, u_lay RX7 TX7 12, u_lay RX7 TX7 13, u_lay RX7 TX7 14, u_lay RX7 TX7 15, u_lay RX7 TX7 16, u_lay RX7 TX7 17, u_lay RX7 TX7 18, u_lay RX7 TX7 19, u_lay RX7 TX7 20, u_lay RX7 TX7 21, u_lay RX7 TX7 22, u_lay RX7 TX7 23] from nw_c nwe_48 (nw_c nwe_49 (nw_c nwe_50 (nw_c nwe_51 (nw_c nwe_52 (nw_c nwe_53 (nw_c nwe_54 (nw_c nwe_55 (nw_c nwe_56 (nw_c nwe_57 (nw_c nwe_58 (nw_c nwe_59 (nw_c nwe_60 (nw_c nwe_61 (nw_c nwe_62 (nw_c nwe_63 (nw_c nwe_64 (nw_c nwe_65 (nw_c nwe_66 (nw_c nwe_67 (nw_c nwe_68 (nw_c nwe_69 (nw_c nwe_70 (nw_c nwe_71 (nw_n)))))))))))))))))))))))))
def nwp_J90 : List Nat := []
theorem nwl_J90 : nwp_J90.map nw = wsJ90 := (show _ = [] from nw_n)
def nwp_J100 : List Nat := []
theorem nwl_J100 : nwp_J100.map nw = wsJ100 := (show _ = [] from nw_n)
def nwp_J70 : List Nat := []
theorem nwl_J70 : nwp_J70.map nw = wsJ70 := (show _ = [] from nw_n)
def nwp_X1_init : List Nat := 72 :: (([73, 74, 75, 76, 77, 78, 79, 80, 81, 82] ++ nwp_X10))
theorem nwl_X1_init : nwp_X1_init.map nw = wsX1_init := nw_c nwe_72 (nw_a (nw_c nwe_73 (nw_c nwe_74 (nw_c nwe_75 (nw_c nwe_76 (nw_c nwe_77 (nw_c nwe_78 (nw_c nwe_79 (nw_c nwe_80 (nw_c nwe_81 (nw_c nwe_82 nw_n)))))))))) (nwl_X10))
def nwp_X0_init : List Nat := 83 :: ((([84, 74, 75, 85, 86, 87, 88, 89, 90, 91, 92, 93, 72, 73, 76, 77, 78, 79, 80, 81, 82] ++ nwp_X10) ++ nwp_X00))
theorem nwl_X0_init : nwp_X0_init.map nw = wsX0_init := nw_c nwe_83 (nw_a (nw_a (nw_c nwe_84 (nw_c nwe_74 (nw_c nwe_75 (nw_c nwe_85 (nw_c nwe_86 (nw_c nwe_87 (nw_c nwe_88 (nw_c nwe_89 (nw_c nwe_90 (nw_c nwe_91 (nw_c nwe_92 (nw_c nwe_93 (nw_c nwe_72 (nw_c nwe_73 (nw_c nwe_76 (nw_c nwe_77 (nw_c nwe_78 (nw_c nwe_79 (nw_c nwe_80 (nw_c nwe_81 (nw_c nwe_82 nw_n))))))))))))))))))))) (nwl_X10)) (nwl_X00))
def nwp_X1_takeFrom : List Nat := 94 :: (([76, 82, 95, 96, 79, 97, 98, 99, 100, 101] ++ nwp_X10))
theorem nwl_X1_takeFrom : nwp_X1_takeFrom.map nw = wsX1_takeFrom := nw_c nwe_94 (nw_a (nw_c nwe_76 (nw_c nwe_82 (nw_c nwe_95 (nw_c nwe_96 (nw_c nwe_79 (nw_c nwe_97 (nw_c nwe_98 (nw_c nwe_99 (nw_c nwe_100 (nw_c nwe_101 nw_n)))))))))) (nwl_X10))
def nwp_X1_at : List Nat := 102 :: (([76, 82] ++ nwp_X10))
theorem nwl_X1_at : nwp_X1_at.map nw = wsX1_at := nw_c nwe_102 (nw_a (nw_c nwe_76 (nw_c nwe_82 nw_n)) (nwl_X10))
def nwp_X0_sees : List Nat := 103 :: ((([91, 89, 104, 105, 106, 107, 87, 102, 76, 82] ++ nwp_X00) ++ nwp_X10))
theorem nwl_X0_sees : nwp_X0_sees.map nw = wsX0_sees := nw_c nwe_103 (nw_a (nw_a (nw_c nwe_91 (nw_c nwe_89 (nw_c nwe_104 (nw_c nwe_105 (nw_c nwe_106 (nw_c nwe_107 (nw_c nwe_87 (nw_c nwe_102 (nw_c nwe_76 (nw_c nwe_82 nw_n)))))))))) (nwl_X00)) (nwl_X10))
def nwp_X1_append : List Nat := 108 :: (([76, 82] ++ nwp_X10))
theorem nwl_X1_append : nwp_X1_append.map nw = wsX1_append := nw_c nwe_108 (nw_a (nw_c nwe_76 (nw_c nwe_82 nw_n)) (nwl_X10))
def nwp_X0_seesDigit : List Nat := 109 :: ((([91, 89, 104, 105, 106, 107, 87, 102, 76, 82] ++ nwp_X00) ++ nwp_X10))
theorem nwl_X0_seesDigit : nwp_X0_seesDigit.map nw = wsX0_seesDigit := nw_c nwe_109 (nw_a (nw_a (nw_c nwe_91 (nw_c nwe_89 (nw_c nwe_104 (nw_c nwe_105 (nw_c nwe_106 (nw_c nwe_107 (nw_c nwe_87 (nw_c nwe_102 (nw_c nwe_76 (nw_c nwe_82 nw_n)))))))))) (nwl_X00)) (nwl_X10))
def nwp_X0_number : List Nat := 110 :: ((([89, 91, 88, 111, 112, 113, 114, 109, 104, 105, 106, 107, 87, 102, 76, 82, 115, 116, 117, 108] ++ nwp_X00) ++ nwp_X10))
theorem nwl_X0_number : nwp_X0_number.map nw = wsX0_number := nw_c nwe_110 (nw_a (nw_a (nw_c nwe_89 (nw_c nwe_91 (nw_c nwe_88 (nw_c nwe_111 (nw_c nwe_112 (nw_c nwe_113 (nw_c nwe_114 (nw_c nwe_109 (nw_c nwe_104 (nw_c nwe_105 (nw_c nwe_106 (nw_c nwe_107 (nw_c nwe_87 (nw_c nwe_102 (nw_c nwe_76 (nw_c nwe_82 (nw_c nwe_115 (nw_c nwe_116 (nw_c nwe_117 (nw_c nwe_108 nw_n)))))))))))))))))))) (nwl_X00)) (nwl_X10))
def nwp_X0_readsName : List Nat := 118 :: ((([119, 90, 88, 91, 120, 121, 122, 114, 103, 89, 104, 105, 106, 107, 87, 102, 76, 82, 115, 116, 117, 108] ++ nwp_X00) ++ nwp_X10))
theorem nwl_X0_readsName : nwp_X0_readsName.map nw = wsX0_readsName := nw_c nwe_118 (nw_a (nw_a (nw_c nwe_119 (nw_c nwe_90 (nw_c nwe_88 (nw_c nwe_91 (nw_c nwe_120 (nw_c nwe_121 (nw_c nwe_122 (nw_c nwe_114 (nw_c nwe_103 (nw_c nwe_89 (nw_c nwe_104 (nw_c nwe_105 (nw_c nwe_106 (nw_c nwe_107 (nw_c nwe_87 (nw_c nwe_102 (nw_c nwe_76 (nw_c nwe_82 (nw_c nwe_115 (nw_c nwe_116 (nw_c nwe_117 (nw_c nwe_108 nw_n)))))))))))))))))))))) (nwl_X00)) (nwl_X10))
def nwp_X0_added_r1 : List Nat := [91, 89, 104, 88, 123, 124, 125, 114, 120, 121, 122, 103, 105, 106, 107, 87, 102, 76, 82, 115, 116, 117, 108, 126]
theorem nwl_X0_added_r1 : nwp_X0_added_r1.map nw = wsX0_added_r1 := nw_c nwe_91 (nw_c nwe_89 (nw_c nwe_104 (nw_c nwe_88 (nw_c nwe_123 (nw_c nwe_124 (nw_c nwe_125 (nw_c nwe_114 (nw_c nwe_120 (nw_c nwe_121 (nw_c nwe_122 (nw_c nwe_103 (nw_c nwe_105 (nw_c nwe_106 (nw_c nwe_107 (nw_c nwe_87 (nw_c nwe_102 (nw_c nwe_76 (nw_c nwe_82 (nw_c nwe_115 (nw_c nwe_116 (nw_c nwe_117 (nw_c nwe_108 (nw_c nwe_126 nw_n)))))))))))))))))))))))
def nwp_X0_added_r2 : List Nat := [127, 128, 129, 130, 131, 132, 133, 134, 135, 136, 137, 138, 139, 140, 141, 142, 143, 144, 145, 146, 111, 112, 113, 109]
theorem nwl_X0_added_r2 : nwp_X0_added_r2.map nw = wsX0_added_r2 := nw_c nwe_127 (nw_c nwe_128 (nw_c nwe_129 (nw_c nwe_130 (nw_c nwe_131 (nw_c nwe_132 (nw_c nwe_133 (nw_c nwe_134 (nw_c nwe_135 (nw_c nwe_136 (nw_c nwe_137 (nw_c nwe_138 (nw_c nwe_139 (nw_c nwe_140 (nw_c nwe_141 (nw_c nwe_142 (nw_c nwe_143 (nw_c nwe_144 (nw_c nwe_145 (nw_c nwe_146 (nw_c nwe_111 (nw_c nwe_112 (nw_c nwe_113 (nw_c nwe_109 nw_n)))))))))))))))))))))))
def nwp_X0_added_r3 : List Nat := [147, 148, 149, 110, 150, 151, 152, 118, 119, 90, 153, 154, 155]
theorem nwl_X0_added_r3 : nwp_X0_added_r3.map nw = wsX0_added_r3 := nw_c nwe_147 (nw_c nwe_148 (nw_c nwe_149 (nw_c nwe_110 (nw_c nwe_150 (nw_c nwe_151 (nw_c nwe_152 (nw_c nwe_118 (nw_c nwe_119 (nw_c nwe_90 (nw_c nwe_153 (nw_c nwe_154 (nw_c nwe_155 nw_n))))))))))))
def nwp_X0_added : List Nat := 156 :: ((((nwp_X0_added_r1 ++ (nwp_X0_added_r2 ++ nwp_X0_added_r3)) ++ nwp_X00) ++ nwp_X10))
theorem nwl_X0_added : nwp_X0_added.map nw = wsX0_added := nw_c nwe_156 (nw_a (nw_a (nw_a (nwl_X0_added_r1) (nw_a (nwl_X0_added_r2) (nwl_X0_added_r3))) (nwl_X00)) (nwl_X10))
def nwp_X0_both_r1 : List Nat := [91, 89, 104, 88, 127, 128, 129, 114, 120, 121, 122, 103, 105, 106, 107, 87, 102, 76, 82, 115, 116, 117, 108, 156]
theorem nwl_X0_both_r1 : nwp_X0_both_r1.map nw = wsX0_both_r1 := nw_c nwe_91 (nw_c nwe_89 (nw_c nwe_104 (nw_c nwe_88 (nw_c nwe_127 (nw_c nwe_128 (nw_c nwe_129 (nw_c nwe_114 (nw_c nwe_120 (nw_c nwe_121 (nw_c nwe_122 (nw_c nwe_103 (nw_c nwe_105 (nw_c nwe_106 (nw_c nwe_107 (nw_c nwe_87 (nw_c nwe_102 (nw_c nwe_76 (nw_c nwe_82 (nw_c nwe_115 (nw_c nwe_116 (nw_c nwe_117 (nw_c nwe_108 (nw_c nwe_156 nw_n)))))))))))))))))))))))
def nwp_X0_both_r2 : List Nat := [123, 124, 125, 130, 131, 132, 133, 134, 135, 136, 137, 138, 139, 140, 141, 142, 143, 144, 145, 146, 111, 112, 113, 109]
theorem nwl_X0_both_r2 : nwp_X0_both_r2.map nw = wsX0_both_r2 := nw_c nwe_123 (nw_c nwe_124 (nw_c nwe_125 (nw_c nwe_130 (nw_c nwe_131 (nw_c nwe_132 (nw_c nwe_133 (nw_c nwe_134 (nw_c nwe_135 (nw_c nwe_136 (nw_c nwe_137 (nw_c nwe_138 (nw_c nwe_139 (nw_c nwe_140 (nw_c nwe_141 (nw_c nwe_142 (nw_c nwe_143 (nw_c nwe_144 (nw_c nwe_145 (nw_c nwe_146 (nw_c nwe_111 (nw_c nwe_112 (nw_c nwe_113 (nw_c nwe_109 nw_n)))))))))))))))))))))))
def nwp_X0_both_r3 : List Nat := [147, 148, 149, 110, 150, 151, 152, 118, 119, 90, 153, 154, 155]
theorem nwl_X0_both_r3 : nwp_X0_both_r3.map nw = wsX0_both_r3 := nw_c nwe_147 (nw_c nwe_148 (nw_c nwe_149 (nw_c nwe_110 (nw_c nwe_150 (nw_c nwe_151 (nw_c nwe_152 (nw_c nwe_118 (nw_c nwe_119 (nw_c nwe_90 (nw_c nwe_153 (nw_c nwe_154 (nw_c nwe_155 nw_n))))))))))))
def nwp_X0_both : List Nat := 126 :: ((((nwp_X0_both_r1 ++ (nwp_X0_both_r2 ++ nwp_X0_both_r3)) ++ nwp_X00) ++ nwp_X10))
theorem nwl_X0_both : nwp_X0_both.map nw = wsX0_both := nw_c nwe_126 (nw_a (nw_a (nw_a (nwl_X0_both_r1) (nw_a (nwl_X0_both_r2) (nwl_X0_both_r3))) (nwl_X00)) (nwl_X10))
def nwp_X0_compared_r1 : List Nat := [89, 91, 88, 131, 132, 133, 114, 120, 121, 122, 103, 104, 105, 106, 107, 87, 102, 76, 82, 115, 116, 117, 108, 156]
theorem nwl_X0_compared_r1 : nwp_X0_compared_r1.map nw = wsX0_compared_r1 := nw_c nwe_89 (nw_c nwe_91 (nw_c nwe_88 (nw_c nwe_131 (nw_c nwe_132 (nw_c nwe_133 (nw_c nwe_114 (nw_c nwe_120 (nw_c nwe_121 (nw_c nwe_122 (nw_c nwe_103 (nw_c nwe_104 (nw_c nwe_105 (nw_c nwe_106 (nw_c nwe_107 (nw_c nwe_87 (nw_c nwe_102 (nw_c nwe_76 (nw_c nwe_82 (nw_c nwe_115 (nw_c nwe_116 (nw_c nwe_117 (nw_c nwe_108 (nw_c nwe_156 nw_n)))))))))))))))))))))))
def nwp_X0_compared_r2 : List Nat := [123, 124, 125, 126, 127, 128, 129, 134, 135, 136, 137, 138, 139, 140, 141, 142, 143, 144, 145, 146, 111, 112, 113, 109]
theorem nwl_X0_compared_r2 : nwp_X0_compared_r2.map nw = wsX0_compared_r2 := nw_c nwe_123 (nw_c nwe_124 (nw_c nwe_125 (nw_c nwe_126 (nw_c nwe_127 (nw_c nwe_128 (nw_c nwe_129 (nw_c nwe_134 (nw_c nwe_135 (nw_c nwe_136 (nw_c nwe_137 (nw_c nwe_138 (nw_c nwe_139 (nw_c nwe_140 (nw_c nwe_141 (nw_c nwe_142 (nw_c nwe_143 (nw_c nwe_144 (nw_c nwe_145 (nw_c nwe_146 (nw_c nwe_111 (nw_c nwe_112 (nw_c nwe_113 (nw_c nwe_109 nw_n)))))))))))))))))))))))
def nwp_X0_compared_r3 : List Nat := [147, 148, 149, 110, 150, 151, 152, 118, 119, 90, 153, 154, 155]
theorem nwl_X0_compared_r3 : nwp_X0_compared_r3.map nw = wsX0_compared_r3 := nw_c nwe_147 (nw_c nwe_148 (nw_c nwe_149 (nw_c nwe_110 (nw_c nwe_150 (nw_c nwe_151 (nw_c nwe_152 (nw_c nwe_118 (nw_c nwe_119 (nw_c nwe_90 (nw_c nwe_153 (nw_c nwe_154 (nw_c nwe_155 nw_n))))))))))))
def nwp_X0_compared : List Nat := 130 :: ((((nwp_X0_compared_r1 ++ (nwp_X0_compared_r2 ++ nwp_X0_compared_r3)) ++ nwp_X00) ++ nwp_X10))
theorem nwl_X0_compared : nwp_X0_compared.map nw = wsX0_compared := nw_c nwe_130 (nw_a (nw_a (nw_a (nwl_X0_compared_r1) (nw_a (nwl_X0_compared_r2) (nwl_X0_compared_r3))) (nwl_X00)) (nwl_X10))
def nwp_X0_either_r1 : List Nat := [91, 89, 104, 88, 135, 136, 137, 114, 120, 121, 122, 103, 105, 106, 107, 87, 102, 76, 82, 115, 116, 117, 108, 156]
theorem nwl_X0_either_r1 : nwp_X0_either_r1.map nw = wsX0_either_r1 := nw_c nwe_91 (nw_c nwe_89 (nw_c nwe_104 (nw_c nwe_88 (nw_c nwe_135 (nw_c nwe_136 (nw_c nwe_137 (nw_c nwe_114 (nw_c nwe_120 (nw_c nwe_121 (nw_c nwe_122 (nw_c nwe_103 (nw_c nwe_105 (nw_c nwe_106 (nw_c nwe_107 (nw_c nwe_87 (nw_c nwe_102 (nw_c nwe_76 (nw_c nwe_82 (nw_c nwe_115 (nw_c nwe_116 (nw_c nwe_117 (nw_c nwe_108 (nw_c nwe_156 nw_n)))))))))))))))))))))))
def nwp_X0_either_r2 : List Nat := [123, 124, 125, 126, 127, 128, 129, 130, 131, 132, 133, 138, 139, 140, 141, 142, 143, 144, 145, 146, 111, 112, 113, 109]
theorem nwl_X0_either_r2 : nwp_X0_either_r2.map nw = wsX0_either_r2 := nw_c nwe_123 (nw_c nwe_124 (nw_c nwe_125 (nw_c nwe_126 (nw_c nwe_127 (nw_c nwe_128 (nw_c nwe_129 (nw_c nwe_130 (nw_c nwe_131 (nw_c nwe_132 (nw_c nwe_133 (nw_c nwe_138 (nw_c nwe_139 (nw_c nwe_140 (nw_c nwe_141 (nw_c nwe_142 (nw_c nwe_143 (nw_c nwe_144 (nw_c nwe_145 (nw_c nwe_146 (nw_c nwe_111 (nw_c nwe_112 (nw_c nwe_113 (nw_c nwe_109 nw_n)))))))))))))))))))))))
def nwp_X0_either_r3 : List Nat := [147, 148, 149, 110, 150, 151, 152, 118, 119, 90, 153, 154, 155]
theorem nwl_X0_either_r3 : nwp_X0_either_r3.map nw = wsX0_either_r3 := nw_c nwe_147 (nw_c nwe_148 (nw_c nwe_149 (nw_c nwe_110 (nw_c nwe_150 (nw_c nwe_151 (nw_c nwe_152 (nw_c nwe_118 (nw_c nwe_119 (nw_c nwe_90 (nw_c nwe_153 (nw_c nwe_154 (nw_c nwe_155 nw_n))))))))))))
def nwp_X0_either : List Nat := 134 :: ((((nwp_X0_either_r1 ++ (nwp_X0_either_r2 ++ nwp_X0_either_r3)) ++ nwp_X00) ++ nwp_X10))
theorem nwl_X0_either : nwp_X0_either.map nw = wsX0_either := nw_c nwe_134 (nw_a (nw_a (nw_a (nwl_X0_either_r1) (nw_a (nwl_X0_either_r2) (nwl_X0_either_r3))) (nwl_X00)) (nwl_X10))
def nwp_X0_enclosed_r1 : List Nat := [91, 139, 140, 141, 114, 120, 121, 122, 103, 89, 104, 105, 106, 107, 87, 102, 76, 82, 156, 88, 123, 124, 125, 115]
theorem nwl_X0_enclosed_r1 : nwp_X0_enclosed_r1.map nw = wsX0_enclosed_r1 := nw_c nwe_91 (nw_c nwe_139 (nw_c nwe_140 (nw_c nwe_141 (nw_c nwe_114 (nw_c nwe_120 (nw_c nwe_121 (nw_c nwe_122 (nw_c nwe_103 (nw_c nwe_89 (nw_c nwe_104 (nw_c nwe_105 (nw_c nwe_106 (nw_c nwe_107 (nw_c nwe_87 (nw_c nwe_102 (nw_c nwe_76 (nw_c nwe_82 (nw_c nwe_156 (nw_c nwe_88 (nw_c nwe_123 (nw_c nwe_124 (nw_c nwe_125 (nw_c nwe_115 nw_n)))))))))))))))))))))))
def nwp_X0_enclosed_r2 : List Nat := [116, 117, 108, 126, 127, 128, 129, 130, 131, 132, 133, 134, 135, 136, 137, 142, 143, 144, 145, 146, 111, 112, 113, 109]
theorem nwl_X0_enclosed_r2 : nwp_X0_enclosed_r2.map nw = wsX0_enclosed_r2 := nw_c nwe_116 (nw_c nwe_117 (nw_c nwe_108 (nw_c nwe_126 (nw_c nwe_127 (nw_c nwe_128 (nw_c nwe_129 (nw_c nwe_130 (nw_c nwe_131 (nw_c nwe_132 (nw_c nwe_133 (nw_c nwe_134 (nw_c nwe_135 (nw_c nwe_136 (nw_c nwe_137 (nw_c nwe_142 (nw_c nwe_143 (nw_c nwe_144 (nw_c nwe_145 (nw_c nwe_146 (nw_c nwe_111 (nw_c nwe_112 (nw_c nwe_113 (nw_c nwe_109 nw_n)))))))))))))))))))))))
def nwp_X0_enclosed_r3 : List Nat := [147, 148, 149, 110, 150, 151, 152, 118, 119, 90, 153, 154, 155]
theorem nwl_X0_enclosed_r3 : nwp_X0_enclosed_r3.map nw = wsX0_enclosed_r3 := nw_c nwe_147 (nw_c nwe_148 (nw_c nwe_149 (nw_c nwe_110 (nw_c nwe_150 (nw_c nwe_151 (nw_c nwe_152 (nw_c nwe_118 (nw_c nwe_119 (nw_c nwe_90 (nw_c nwe_153 (nw_c nwe_154 (nw_c nwe_155 nw_n))))))))))))
def nwp_X0_enclosed : List Nat := 138 :: ((((nwp_X0_enclosed_r1 ++ (nwp_X0_enclosed_r2 ++ nwp_X0_enclosed_r3)) ++ nwp_X00) ++ nwp_X10))
theorem nwl_X0_enclosed : nwp_X0_enclosed.map nw = wsX0_enclosed := nw_c nwe_138 (nw_a (nw_a (nw_a (nwl_X0_enclosed_r1) (nw_a (nwl_X0_enclosed_r2) (nwl_X0_enclosed_r3))) (nwl_X00)) (nwl_X10))
def nwp_X0_multiplied_r1 : List Nat := [91, 89, 104, 88, 143, 144, 145, 114, 120, 121, 122, 103, 105, 106, 107, 87, 102, 76, 82, 115, 116, 117, 108, 156]
theorem nwl_X0_multiplied_r1 : nwp_X0_multiplied_r1.map nw = wsX0_multiplied_r1 := nw_c nwe_91 (nw_c nwe_89 (nw_c nwe_104 (nw_c nwe_88 (nw_c nwe_143 (nw_c nwe_144 (nw_c nwe_145 (nw_c nwe_114 (nw_c nwe_120 (nw_c nwe_121 (nw_c nwe_122 (nw_c nwe_103 (nw_c nwe_105 (nw_c nwe_106 (nw_c nwe_107 (nw_c nwe_87 (nw_c nwe_102 (nw_c nwe_76 (nw_c nwe_82 (nw_c nwe_115 (nw_c nwe_116 (nw_c nwe_117 (nw_c nwe_108 (nw_c nwe_156 nw_n)))))))))))))))))))))))
def nwp_X0_multiplied_r2 : List Nat := [123, 124, 125, 126, 127, 128, 129, 130, 131, 132, 133, 134, 135, 136, 137, 138, 139, 140, 141, 146, 111, 112, 113, 109]
theorem nwl_X0_multiplied_r2 : nwp_X0_multiplied_r2.map nw = wsX0_multiplied_r2 := nw_c nwe_123 (nw_c nwe_124 (nw_c nwe_125 (nw_c nwe_126 (nw_c nwe_127 (nw_c nwe_128 (nw_c nwe_129 (nw_c nwe_130 (nw_c nwe_131 (nw_c nwe_132 (nw_c nwe_133 (nw_c nwe_134 (nw_c nwe_135 (nw_c nwe_136 (nw_c nwe_137 (nw_c nwe_138 (nw_c nwe_139 (nw_c nwe_140 (nw_c nwe_141 (nw_c nwe_146 (nw_c nwe_111 (nw_c nwe_112 (nw_c nwe_113 (nw_c nwe_109 nw_n)))))))))))))))))))))))
def nwp_X0_multiplied_r3 : List Nat := [147, 148, 149, 110, 150, 151, 152, 118, 119, 90, 153, 154, 155]
theorem nwl_X0_multiplied_r3 : nwp_X0_multiplied_r3.map nw = wsX0_multiplied_r3 := nw_c nwe_147 (nw_c nwe_148 (nw_c nwe_149 (nw_c nwe_110 (nw_c nwe_150 (nw_c nwe_151 (nw_c nwe_152 (nw_c nwe_118 (nw_c nwe_119 (nw_c nwe_90 (nw_c nwe_153 (nw_c nwe_154 (nw_c nwe_155 nw_n))))))))))))
def nwp_X0_multiplied : List Nat := 142 :: ((((nwp_X0_multiplied_r1 ++ (nwp_X0_multiplied_r2 ++ nwp_X0_multiplied_r3)) ++ nwp_X00) ++ nwp_X10))
theorem nwl_X0_multiplied : nwp_X0_multiplied.map nw = wsX0_multiplied := nw_c nwe_142 (nw_a (nw_a (nw_a (nwl_X0_multiplied_r1) (nw_a (nwl_X0_multiplied_r2) (nwl_X0_multiplied_r3))) (nwl_X00)) (nwl_X10))
def nwp_X0_single_r1 : List Nat := [91, 88, 111, 112, 113, 114, 109, 89, 104, 105, 106, 107, 87, 102, 76, 82, 147, 148, 149, 110, 115, 116, 117, 108]
theorem nwl_X0_single_r1 : nwp_X0_single_r1.map nw = wsX0_single_r1 := nw_c nwe_91 (nw_c nwe_88 (nw_c nwe_111 (nw_c nwe_112 (nw_c nwe_113 (nw_c nwe_114 (nw_c nwe_109 (nw_c nwe_89 (nw_c nwe_104 (nw_c nwe_105 (nw_c nwe_106 (nw_c nwe_107 (nw_c nwe_87 (nw_c nwe_102 (nw_c nwe_76 (nw_c nwe_82 (nw_c nwe_147 (nw_c nwe_148 (nw_c nwe_149 (nw_c nwe_110 (nw_c nwe_115 (nw_c nwe_116 (nw_c nwe_117 (nw_c nwe_108 nw_n)))))))))))))))))))))))
def nwp_X0_single_r2 : List Nat := [150, 151, 152, 118, 119, 90, 120, 121, 122, 103, 143, 144, 145, 153, 154, 155, 156, 123, 124, 125, 126, 127, 128, 129]
theorem nwl_X0_single_r2 : nwp_X0_single_r2.map nw = wsX0_single_r2 := nw_c nwe_150 (nw_c nwe_151 (nw_c nwe_152 (nw_c nwe_118 (nw_c nwe_119 (nw_c nwe_90 (nw_c nwe_120 (nw_c nwe_121 (nw_c nwe_122 (nw_c nwe_103 (nw_c nwe_143 (nw_c nwe_144 (nw_c nwe_145 (nw_c nwe_153 (nw_c nwe_154 (nw_c nwe_155 (nw_c nwe_156 (nw_c nwe_123 (nw_c nwe_124 (nw_c nwe_125 (nw_c nwe_126 (nw_c nwe_127 (nw_c nwe_128 (nw_c nwe_129 nw_n)))))))))))))))))))))))
def nwp_X0_single_r3 : List Nat := [130, 131, 132, 133, 134, 135, 136, 137, 138, 139, 140, 141, 142]
theorem nwl_X0_single_r3 : nwp_X0_single_r3.map nw = wsX0_single_r3 := nw_c nwe_130 (nw_c nwe_131 (nw_c nwe_132 (nw_c nwe_133 (nw_c nwe_134 (nw_c nwe_135 (nw_c nwe_136 (nw_c nwe_137 (nw_c nwe_138 (nw_c nwe_139 (nw_c nwe_140 (nw_c nwe_141 (nw_c nwe_142 nw_n))))))))))))
def nwp_X0_single : List Nat := 146 :: ((((nwp_X0_single_r1 ++ (nwp_X0_single_r2 ++ nwp_X0_single_r3)) ++ nwp_X00) ++ nwp_X10))
theorem nwl_X0_single : nwp_X0_single.map nw = wsX0_single := nw_c nwe_146 (nw_a (nw_a (nw_a (nwl_X0_single_r1) (nw_a (nwl_X0_single_r2) (nwl_X0_single_r3))) (nwl_X00)) (nwl_X10))
def nwp_X0_read_r1 : List Nat := [89, 90, 91, 88, 104, 157, 158, 159, 87, 94, 76, 82, 95, 96, 79, 97, 98, 99, 100, 101, 139, 140, 141, 114]
theorem nwl_X0_read_r1 : nwp_X0_read_r1.map nw = wsX0_read_r1 := nw_c nwe_89 (nw_c nwe_90 (nw_c nwe_91 (nw_c nwe_88 (nw_c nwe_104 (nw_c nwe_157 (nw_c nwe_158 (nw_c nwe_159 (nw_c nwe_87 (nw_c nwe_94 (nw_c nwe_76 (nw_c nwe_82 (nw_c nwe_95 (nw_c nwe_96 (nw_c nwe_79 (nw_c nwe_97 (nw_c nwe_98 (nw_c nwe_99 (nw_c nwe_100 (nw_c nwe_101 (nw_c nwe_139 (nw_c nwe_140 (nw_c nwe_141 (nw_c nwe_114 nw_n)))))))))))))))))))))))
def nwp_X0_read_r2 : List Nat := [134, 135, 136, 137, 120, 121, 122, 103, 105, 106, 107, 102, 115, 116, 117, 108, 156, 123, 124, 125, 126, 127, 128, 129]
theorem nwl_X0_read_r2 : nwp_X0_read_r2.map nw = wsX0_read_r2 := nw_c nwe_134 (nw_c nwe_135 (nw_c nwe_136 (nw_c nwe_137 (nw_c nwe_120 (nw_c nwe_121 (nw_c nwe_122 (nw_c nwe_103 (nw_c nwe_105 (nw_c nwe_106 (nw_c nwe_107 (nw_c nwe_102 (nw_c nwe_115 (nw_c nwe_116 (nw_c nwe_117 (nw_c nwe_108 (nw_c nwe_156 (nw_c nwe_123 (nw_c nwe_124 (nw_c nwe_125 (nw_c nwe_126 (nw_c nwe_127 (nw_c nwe_128 (nw_c nwe_129 nw_n)))))))))))))))))))))))
def nwp_X0_read_r3 : List Nat := [130, 131, 132, 133, 138, 142, 143, 144, 145, 146, 111, 112, 113, 109, 147, 148, 149, 110, 150, 151, 152, 118, 119, 153]
theorem nwl_X0_read_r3 : nwp_X0_read_r3.map nw = wsX0_read_r3 := nw_c nwe_130 (nw_c nwe_131 (nw_c nwe_132 (nw_c nwe_133 (nw_c nwe_138 (nw_c nwe_142 (nw_c nwe_143 (nw_c nwe_144 (nw_c nwe_145 (nw_c nwe_146 (nw_c nwe_111 (nw_c nwe_112 (nw_c nwe_113 (nw_c nwe_109 (nw_c nwe_147 (nw_c nwe_148 (nw_c nwe_149 (nw_c nwe_110 (nw_c nwe_150 (nw_c nwe_151 (nw_c nwe_152 (nw_c nwe_118 (nw_c nwe_119 (nw_c nwe_153 nw_n)))))))))))))))))))))))
def nwp_X0_read_r4 : List Nat := [154, 155]
theorem nwl_X0_read_r4 : nwp_X0_read_r4.map nw = wsX0_read_r4 := nw_c nwe_154 (nw_c nwe_155 nw_n)
def nwp_X0_read : List Nat := 160 :: ((((nwp_X0_read_r1 ++ (nwp_X0_read_r2 ++ (nwp_X0_read_r3 ++ nwp_X0_read_r4))) ++ nwp_X00) ++ nwp_X10))
theorem nwl_X0_read : nwp_X0_read.map nw = wsX0_read := nw_c nwe_160 (nw_a (nw_a (nw_a (nwl_X0_read_r1) (nw_a (nwl_X0_read_r2) (nw_a (nwl_X0_read_r3) (nwl_X0_read_r4)))) (nwl_X00)) (nwl_X10))
def nwp_X2_init : List Nat := 161 :: (([162, 74, 75, 81, 163, 164, 165] ++ nwp_X20))
theorem nwl_X2_init : nwp_X2_init.map nw = wsX2_init := nw_c nwe_161 (nw_a (nw_c nwe_162 (nw_c nwe_74 (nw_c nwe_75 (nw_c nwe_81 (nw_c nwe_163 (nw_c nwe_164 (nw_c nwe_165 nw_n))))))) (nwl_X20))
def nwp_X2_isMissing : List Nat := 166 :: (([164] ++ nwp_X20))
theorem nwl_X2_isMissing : nwp_X2_isMissing.map nw = wsX2_isMissing := nw_c nwe_166 (nw_a (nw_c nwe_164 nw_n) (nwl_X20))
def nwp_J7_fill_53178 : List Nat := 167 :: ([])
theorem nwl_J7_fill_53178 : nwp_J7_fill_53178.map nw = wsJ7_fill_53178 := nw_c nwe_167 (nw_n)
def nwp_X2_becomes : List Nat := 168 :: (([164, 169, 96, 79, 97, 170, 78, 80, 165, 163, 171, 172, 173, 167] ++ nwp_X20))
theorem nwl_X2_becomes : nwp_X2_becomes.map nw = wsX2_becomes := nw_c nwe_168 (nw_a (nw_c nwe_164 (nw_c nwe_169 (nw_c nwe_96 (nw_c nwe_79 (nw_c nwe_97 (nw_c nwe_170 (nw_c nwe_78 (nw_c nwe_80 (nw_c nwe_165 (nw_c nwe_163 (nw_c nwe_171 (nw_c nwe_172 (nw_c nwe_173 (nw_c nwe_167 nw_n)))))))))))))) (nwl_X20))
def nwp_X2_at : List Nat := 174 :: (([165, 163] ++ nwp_X20))
theorem nwl_X2_at : nwp_X2_at.map nw = wsX2_at := nw_c nwe_174 (nw_a (nw_c nwe_165 (nw_c nwe_163 nw_n)) (nwl_X20))
def nwp_X2_hold : List Nat := 175 :: (([165, 164, 163] ++ nwp_X20))
theorem nwl_X2_hold : nwp_X2_hold.map nw = wsX2_hold := nw_c nwe_175 (nw_a (nw_c nwe_165 (nw_c nwe_164 (nw_c nwe_163 nw_n))) (nwl_X20))
def nwp_X2_holdsPart : List Nat := 176 :: (([165] ++ nwp_X20))
theorem nwl_X2_holdsPart : nwp_X2_holdsPart.map nw = wsX2_holdsPart := nw_c nwe_176 (nw_a (nw_c nwe_165 nw_n) (nwl_X20))
def nwp_X2_startsWith : List Nat := 177 :: (([165, 163] ++ nwp_X20))
theorem nwl_X2_startsWith : nwp_X2_startsWith.map nw = wsX2_startsWith := nw_c nwe_177 (nw_a (nw_c nwe_165 (nw_c nwe_163 nw_n)) (nwl_X20))
def nwp_X3_init : List Nat := 178 :: ((([179, 74, 75, 180, 86, 87, 181, 81, 182, 183, 93, 72, 73, 76, 77, 78, 79, 80, 82] ++ nwp_X10) ++ nwp_X30))
theorem nwl_X3_init : nwp_X3_init.map nw = wsX3_init := nw_c nwe_178 (nw_a (nw_a (nw_c nwe_179 (nw_c nwe_74 (nw_c nwe_75 (nw_c nwe_180 (nw_c nwe_86 (nw_c nwe_87 (nw_c nwe_181 (nw_c nwe_81 (nw_c nwe_182 (nw_c nwe_183 (nw_c nwe_93 (nw_c nwe_72 (nw_c nwe_73 (nw_c nwe_76 (nw_c nwe_77 (nw_c nwe_78 (nw_c nwe_79 (nw_c nwe_80 (nw_c nwe_82 nw_n))))))))))))))))))) (nwl_X10)) (nwl_X30))
def nwp_X3_isThere : List Nat := 184 :: ((([181, 185] ++ nwp_X30) ++ nwp_X10))
theorem nwl_X3_isThere : nwp_X3_isThere.map nw = wsX3_isThere := nw_c nwe_184 (nw_a (nw_a (nw_c nwe_181 (nw_c nwe_185 nw_n)) (nwl_X30)) (nwl_X10))
def nwp_X3_named : List Nat := 186 :: ([])
theorem nwl_X3_named : nwp_X3_named.map nw = wsX3_named := nw_c nwe_186 (nw_n)
def nwp_X3_joined : List Nat := 187 :: ([])
theorem nwl_X3_joined : nwp_X3_joined.map nw = wsX3_joined := nw_c nwe_187 (nw_n)
def nwp_X3_value : List Nat := 188 :: ((([181, 185, 182, 189, 106, 107, 87, 102, 76, 82, 190, 191, 192, 186, 193, 194, 187] ++ nwp_X30) ++ nwp_X10))
theorem nwl_X3_value : nwp_X3_value.map nw = wsX3_value := nw_c nwe_188 (nw_a (nw_a (nw_c nwe_181 (nw_c nwe_185 (nw_c nwe_182 (nw_c nwe_189 (nw_c nwe_106 (nw_c nwe_107 (nw_c nwe_87 (nw_c nwe_102 (nw_c nwe_76 (nw_c nwe_82 (nw_c nwe_190 (nw_c nwe_191 (nw_c nwe_192 (nw_c nwe_186 (nw_c nwe_193 (nw_c nwe_194 (nw_c nwe_187 nw_n))))))))))))))))) (nwl_X30)) (nwl_X10))
def nwp_X4_init : List Nat := 195 :: ((([196, 74, 75, 197, 86, 87, 198, 199, 200, 201, 202, 203, 93, 72, 73, 76, 77, 78, 79, 80, 81, 82] ++ nwp_X10) ++ nwp_X40))
theorem nwl_X4_init : nwp_X4_init.map nw = wsX4_init := nw_c nwe_195 (nw_a (nw_a (nw_c nwe_196 (nw_c nwe_74 (nw_c nwe_75 (nw_c nwe_197 (nw_c nwe_86 (nw_c nwe_87 (nw_c nwe_198 (nw_c nwe_199 (nw_c nwe_200 (nw_c nwe_201 (nw_c nwe_202 (nw_c nwe_203 (nw_c nwe_93 (nw_c nwe_72 (nw_c nwe_73 (nw_c nwe_76 (nw_c nwe_77 (nw_c nwe_78 (nw_c nwe_79 (nw_c nwe_80 (nw_c nwe_81 (nw_c nwe_82 nw_n)))))))))))))))))))))) (nwl_X10)) (nwl_X40))
def nwp_X4_partedBy : List Nat := 204 :: (([199] ++ nwp_X40))
theorem nwl_X4_partedBy : nwp_X4_partedBy.map nw = wsX4_partedBy := nw_c nwe_204 (nw_a (nw_c nwe_199 nw_n) (nwl_X40))
def nwp_X4_above_r1 : List Nat := [205, 206, 207, 208, 209, 210, 211, 212, 213, 214, 202, 215, 199, 198, 200, 201, 216, 116, 117, 87, 108, 76, 82, 217]
theorem nwl_X4_above_r1 : nwp_X4_above_r1.map nw = wsX4_above_r1 := nw_c nwe_205 (nw_c nwe_206 (nw_c nwe_207 (nw_c nwe_208 (nw_c nwe_209 (nw_c nwe_210 (nw_c nwe_211 (nw_c nwe_212 (nw_c nwe_213 (nw_c nwe_214 (nw_c nwe_202 (nw_c nwe_215 (nw_c nwe_199 (nw_c nwe_198 (nw_c nwe_200 (nw_c nwe_201 (nw_c nwe_216 (nw_c nwe_116 (nw_c nwe_117 (nw_c nwe_87 (nw_c nwe_108 (nw_c nwe_76 (nw_c nwe_82 (nw_c nwe_217 nw_n)))))))))))))))))))))))
def nwp_X4_above_r2 : List Nat := [218, 219, 220, 221, 222, 204, 223, 224, 225]
theorem nwl_X4_above_r2 : nwp_X4_above_r2.map nw = wsX4_above_r2 := nw_c nwe_218 (nw_c nwe_219 (nw_c nwe_220 (nw_c nwe_221 (nw_c nwe_222 (nw_c nwe_204 (nw_c nwe_223 (nw_c nwe_224 (nw_c nwe_225 nw_n))))))))
def nwp_X4_above : List Nat := 226 :: ((((nwp_X4_above_r1 ++ nwp_X4_above_r2) ++ nwp_X40) ++ nwp_X10))
theorem nwl_X4_above : nwp_X4_above.map nw = wsX4_above := nw_c nwe_226 (nw_a (nw_a (nw_a (nwl_X4_above_r1) (nwl_X4_above_r2)) (nwl_X40)) (nwl_X10))
def nwp_X4_from_r1 : List Nat := [210, 211, 212, 213, 208, 226, 205, 206, 207, 214, 202, 215, 199, 198, 200, 201, 216, 116, 117, 87, 108, 76, 82, 217]
theorem nwl_X4_from_r1 : nwp_X4_from_r1.map nw = wsX4_from_r1 := nw_c nwe_210 (nw_c nwe_211 (nw_c nwe_212 (nw_c nwe_213 (nw_c nwe_208 (nw_c nwe_226 (nw_c nwe_205 (nw_c nwe_206 (nw_c nwe_207 (nw_c nwe_214 (nw_c nwe_202 (nw_c nwe_215 (nw_c nwe_199 (nw_c nwe_198 (nw_c nwe_200 (nw_c nwe_201 (nw_c nwe_216 (nw_c nwe_116 (nw_c nwe_117 (nw_c nwe_87 (nw_c nwe_108 (nw_c nwe_76 (nw_c nwe_82 (nw_c nwe_217 nw_n)))))))))))))))))))))))
def nwp_X4_from_r2 : List Nat := [218, 219, 220, 221, 222, 204, 223, 224, 225]
theorem nwl_X4_from_r2 : nwp_X4_from_r2.map nw = wsX4_from_r2 := nw_c nwe_218 (nw_c nwe_219 (nw_c nwe_220 (nw_c nwe_221 (nw_c nwe_222 (nw_c nwe_204 (nw_c nwe_223 (nw_c nwe_224 (nw_c nwe_225 nw_n))))))))
def nwp_X4_from : List Nat := 209 :: ((((nwp_X4_from_r1 ++ nwp_X4_from_r2) ++ nwp_X40) ++ nwp_X10))
theorem nwl_X4_from : nwp_X4_from.map nw = wsX4_from := nw_c nwe_209 (nw_a (nw_a (nw_a (nwl_X4_from_r1) (nwl_X4_from_r2)) (nwl_X40)) (nwl_X10))
def nwp_X4_own_r1 : List Nat := [202, 205, 206, 207, 208, 226, 209, 210, 211, 212, 213, 215, 199, 198, 200, 201, 216, 116, 117, 87, 108, 76, 82, 217]
theorem nwl_X4_own_r1 : nwp_X4_own_r1.map nw = wsX4_own_r1 := nw_c nwe_202 (nw_c nwe_205 (nw_c nwe_206 (nw_c nwe_207 (nw_c nwe_208 (nw_c nwe_226 (nw_c nwe_209 (nw_c nwe_210 (nw_c nwe_211 (nw_c nwe_212 (nw_c nwe_213 (nw_c nwe_215 (nw_c nwe_199 (nw_c nwe_198 (nw_c nwe_200 (nw_c nwe_201 (nw_c nwe_216 (nw_c nwe_116 (nw_c nwe_117 (nw_c nwe_87 (nw_c nwe_108 (nw_c nwe_76 (nw_c nwe_82 (nw_c nwe_217 nw_n)))))))))))))))))))))))
def nwp_X4_own_r2 : List Nat := [218, 219, 220, 221, 222, 204, 223, 224, 225]
theorem nwl_X4_own_r2 : nwp_X4_own_r2.map nw = wsX4_own_r2 := nw_c nwe_218 (nw_c nwe_219 (nw_c nwe_220 (nw_c nwe_221 (nw_c nwe_222 (nw_c nwe_204 (nw_c nwe_223 (nw_c nwe_224 (nw_c nwe_225 nw_n))))))))
def nwp_X4_own : List Nat := 214 :: ((((nwp_X4_own_r1 ++ nwp_X4_own_r2) ++ nwp_X40) ++ nwp_X10))
theorem nwl_X4_own : nwp_X4_own.map nw = wsX4_own := nw_c nwe_214 (nw_a (nw_a (nw_a (nwl_X4_own_r1) (nwl_X4_own_r2)) (nwl_X40)) (nwl_X10))
def nwp_X4_workedOut_r1 : List Nat := [199, 198, 200, 201, 216, 116, 117, 87, 108, 76, 82, 217, 218, 219, 208, 220, 221, 222, 204, 223, 224, 225, 226, 205]
theorem nwl_X4_workedOut_r1 : nwp_X4_workedOut_r1.map nw = wsX4_workedOut_r1 := nw_c nwe_199 (nw_c nwe_198 (nw_c nwe_200 (nw_c nwe_201 (nw_c nwe_216 (nw_c nwe_116 (nw_c nwe_117 (nw_c nwe_87 (nw_c nwe_108 (nw_c nwe_76 (nw_c nwe_82 (nw_c nwe_217 (nw_c nwe_218 (nw_c nwe_219 (nw_c nwe_208 (nw_c nwe_220 (nw_c nwe_221 (nw_c nwe_222 (nw_c nwe_204 (nw_c nwe_223 (nw_c nwe_224 (nw_c nwe_225 (nw_c nwe_226 (nw_c nwe_205 nw_n)))))))))))))))))))))))
def nwp_X4_workedOut_r2 : List Nat := [206, 207, 209, 210, 211, 212, 213, 214, 202]
theorem nwl_X4_workedOut_r2 : nwp_X4_workedOut_r2.map nw = wsX4_workedOut_r2 := nw_c nwe_206 (nw_c nwe_207 (nw_c nwe_209 (nw_c nwe_210 (nw_c nwe_211 (nw_c nwe_212 (nw_c nwe_213 (nw_c nwe_214 (nw_c nwe_202 nw_n))))))))
def nwp_X4_workedOut : List Nat := 215 :: ((((nwp_X4_workedOut_r1 ++ nwp_X4_workedOut_r2) ++ nwp_X40) ++ nwp_X10))
theorem nwl_X4_workedOut : nwp_X4_workedOut.map nw = wsX4_workedOut := nw_c nwe_215 (nw_a (nw_a (nw_a (nwl_X4_workedOut_r1) (nwl_X4_workedOut_r2)) (nwl_X40)) (nwl_X10))
def nwp_X4_answer_r1 : List Nat := [198, 227, 199, 200, 201, 202, 217, 218, 219, 208, 214, 205, 206, 207, 226, 209, 210, 211, 212, 213, 215, 216, 116, 117]
theorem nwl_X4_answer_r1 : nwp_X4_answer_r1.map nw = wsX4_answer_r1 := nw_c nwe_198 (nw_c nwe_227 (nw_c nwe_199 (nw_c nwe_200 (nw_c nwe_201 (nw_c nwe_202 (nw_c nwe_217 (nw_c nwe_218 (nw_c nwe_219 (nw_c nwe_208 (nw_c nwe_214 (nw_c nwe_205 (nw_c nwe_206 (nw_c nwe_207 (nw_c nwe_226 (nw_c nwe_209 (nw_c nwe_210 (nw_c nwe_211 (nw_c nwe_212 (nw_c nwe_213 (nw_c nwe_215 (nw_c nwe_216 (nw_c nwe_116 (nw_c nwe_117 nw_n)))))))))))))))))))))))
def nwp_X4_answer_r2 : List Nat := [87, 108, 76, 82, 220, 221, 222, 204, 223, 224, 225]
theorem nwl_X4_answer_r2 : nwp_X4_answer_r2.map nw = wsX4_answer_r2 := nw_c nwe_87 (nw_c nwe_108 (nw_c nwe_76 (nw_c nwe_82 (nw_c nwe_220 (nw_c nwe_221 (nw_c nwe_222 (nw_c nwe_204 (nw_c nwe_223 (nw_c nwe_224 (nw_c nwe_225 nw_n))))))))))
def nwp_X4_answer : List Nat := 228 :: ((((nwp_X4_answer_r1 ++ nwp_X4_answer_r2) ++ nwp_X40) ++ nwp_X10))
theorem nwl_X4_answer : nwp_X4_answer.map nw = wsX4_answer := nw_c nwe_228 (nw_a (nw_a (nw_a (nwl_X4_answer_r1) (nwl_X4_answer_r2)) (nwl_X40)) (nwl_X10))
def nwp_X5_init_r1 : List Nat := [229, 74, 75, 81, 230, 231, 232, 233, 234, 235, 236, 237, 238, 239, 192, 240, 241, 242, 243, 244, 245, 246, 247, 248]
theorem nwl_X5_init_r1 : nwp_X5_init_r1.map nw = wsX5_init_r1 := nw_c nwe_229 (nw_c nwe_74 (nw_c nwe_75 (nw_c nwe_81 (nw_c nwe_230 (nw_c nwe_231 (nw_c nwe_232 (nw_c nwe_233 (nw_c nwe_234 (nw_c nwe_235 (nw_c nwe_236 (nw_c nwe_237 (nw_c nwe_238 (nw_c nwe_239 (nw_c nwe_192 (nw_c nwe_240 (nw_c nwe_241 (nw_c nwe_242 (nw_c nwe_243 (nw_c nwe_244 (nw_c nwe_245 (nw_c nwe_246 (nw_c nwe_247 (nw_c nwe_248 nw_n)))))))))))))))))))))))
def nwp_X5_init_r2 : List Nat := [249, 178, 179, 180, 86, 87, 181, 182, 183, 93, 72, 73, 76, 77, 78, 79, 80, 82, 250, 172, 173, 167]
theorem nwl_X5_init_r2 : nwp_X5_init_r2.map nw = wsX5_init_r2 := nw_c nwe_249 (nw_c nwe_178 (nw_c nwe_179 (nw_c nwe_180 (nw_c nwe_86 (nw_c nwe_87 (nw_c nwe_181 (nw_c nwe_182 (nw_c nwe_183 (nw_c nwe_93 (nw_c nwe_72 (nw_c nwe_73 (nw_c nwe_76 (nw_c nwe_77 (nw_c nwe_78 (nw_c nwe_79 (nw_c nwe_80 (nw_c nwe_82 (nw_c nwe_250 (nw_c nwe_172 (nw_c nwe_173 (nw_c nwe_167 nw_n)))))))))))))))))))))
def nwp_X5_init : List Nat := 251 :: (((((nwp_X5_init_r1 ++ nwp_X5_init_r2) ++ nwp_X50) ++ nwp_X30) ++ nwp_X10))
theorem nwl_X5_init : nwp_X5_init.map nw = wsX5_init := nw_c nwe_251 (nw_a (nw_a (nw_a (nw_a (nwl_X5_init_r1) (nwl_X5_init_r2)) (nwl_X50)) (nwl_X30)) (nwl_X10))
def nwp_X5_takeWoodFrom : List Nat := 252 :: (([231, 253, 99, 100, 101, 247, 243] ++ nwp_X50))
theorem nwl_X5_takeWoodFrom : nwp_X5_takeWoodFrom.map nw = wsX5_takeWoodFrom := nw_c nwe_252 (nw_a (nw_c nwe_231 (nw_c nwe_253 (nw_c nwe_99 (nw_c nwe_100 (nw_c nwe_101 (nw_c nwe_247 (nw_c nwe_243 nw_n))))))) (nwl_X50))
def nwp_X5_takeFrom_r1 : List Nat := [230, 253, 99, 100, 101, 232, 233, 234, 235, 236, 237, 240, 254, 241, 242, 244, 245, 246, 255, 158, 159, 87, 94, 76]
theorem nwl_X5_takeFrom_r1 : nwp_X5_takeFrom_r1.map nw = wsX5_takeFrom_r1 := nw_c nwe_230 (nw_c nwe_253 (nw_c nwe_99 (nw_c nwe_100 (nw_c nwe_101 (nw_c nwe_232 (nw_c nwe_233 (nw_c nwe_234 (nw_c nwe_235 (nw_c nwe_236 (nw_c nwe_237 (nw_c nwe_240 (nw_c nwe_254 (nw_c nwe_241 (nw_c nwe_242 (nw_c nwe_244 (nw_c nwe_245 (nw_c nwe_246 (nw_c nwe_255 (nw_c nwe_158 (nw_c nwe_159 (nw_c nwe_87 (nw_c nwe_94 (nw_c nwe_76 nw_n)))))))))))))))))))))))
def nwp_X5_takeFrom_r2 : List Nat := [82, 95, 96, 79, 97, 98, 256, 257, 258, 259, 252, 231, 247, 243]
theorem nwl_X5_takeFrom_r2 : nwp_X5_takeFrom_r2.map nw = wsX5_takeFrom_r2 := nw_c nwe_82 (nw_c nwe_95 (nw_c nwe_96 (nw_c nwe_79 (nw_c nwe_97 (nw_c nwe_98 (nw_c nwe_256 (nw_c nwe_257 (nw_c nwe_258 (nw_c nwe_259 (nw_c nwe_252 (nw_c nwe_231 (nw_c nwe_247 (nw_c nwe_243 nw_n)))))))))))))
def nwp_X5_takeFrom : List Nat := 260 :: (((((nwp_X5_takeFrom_r1 ++ nwp_X5_takeFrom_r2) ++ nwp_X50) ++ nwp_X30) ++ nwp_X10))
theorem nwl_X5_takeFrom : nwp_X5_takeFrom.map nw = wsX5_takeFrom := nw_c nwe_260 (nw_a (nw_a (nw_a (nw_a (nwl_X5_takeFrom_r1) (nwl_X5_takeFrom_r2)) (nwl_X50)) (nwl_X30)) (nwl_X10))
def nwp_X5_textOf : List Nat := 261 :: (([240, 241] ++ nwp_X50))
theorem nwl_X5_textOf : nwp_X5_textOf.map nw = wsX5_textOf := nw_c nwe_261 (nw_a (nw_c nwe_240 (nw_c nwe_241 nw_n)) (nwl_X50))
def nwp_X5_within4 : List Nat := 262 :: ([263, 96, 79, 97, 264, 78, 80])
theorem nwl_X5_within4 : nwp_X5_within4.map nw = wsX5_within4 := nw_c nwe_262 (nw_c nwe_263 (nw_c nwe_96 (nw_c nwe_79 (nw_c nwe_97 (nw_c nwe_264 (nw_c nwe_78 (nw_c nwe_80 nw_n)))))))
def nwp_X5_ofFarmer : List Nat := 265 :: (([232, 233, 234, 235, 236, 237, 266, 267, 259, 262, 263, 96, 79, 97, 264, 78, 80] ++ nwp_X50))
theorem nwl_X5_ofFarmer : nwp_X5_ofFarmer.map nw = wsX5_ofFarmer := nw_c nwe_265 (nw_a (nw_c nwe_232 (nw_c nwe_233 (nw_c nwe_234 (nw_c nwe_235 (nw_c nwe_236 (nw_c nwe_237 (nw_c nwe_266 (nw_c nwe_267 (nw_c nwe_259 (nw_c nwe_262 (nw_c nwe_263 (nw_c nwe_96 (nw_c nwe_79 (nw_c nwe_97 (nw_c nwe_264 (nw_c nwe_78 (nw_c nwe_80 nw_n))))))))))))))))) (nwl_X50))
def nwp_X5_changeTurns : List Nat := 268 :: (([236] ++ nwp_X50))
theorem nwl_X5_changeTurns : nwp_X5_changeTurns.map nw = wsX5_changeTurns := nw_c nwe_268 (nw_a (nw_c nwe_236 nw_n) (nwl_X50))
def nwp_X5_whoHasIt : List Nat := 269 :: (([245, 236] ++ nwp_X50))
theorem nwl_X5_whoHasIt : nwp_X5_whoHasIt.map nw = wsX5_whoHasIt := nw_c nwe_269 (nw_a (nw_c nwe_245 (nw_c nwe_236 nw_n)) (nwl_X50))
def nwp_X5_richestOak : List Nat := 270 :: (([231] ++ nwp_X50))
theorem nwl_X5_richestOak : nwp_X5_richestOak.map nw = wsX5_richestOak := nw_c nwe_270 (nw_a (nw_c nwe_231 nw_n) (nwl_X50))
def nwp_X5_dugFor : List Nat := 271 :: (([230, 248] ++ nwp_X50))
theorem nwl_X5_dugFor : nwp_X5_dugFor.map nw = wsX5_dugFor := nw_c nwe_271 (nw_a (nw_c nwe_230 (nw_c nwe_248 nw_n)) (nwl_X50))
def nwp_X5_drawRain : List Nat := 272 :: (([246, 273, 242] ++ nwp_X50))
theorem nwl_X5_drawRain : nwp_X5_drawRain.map nw = wsX5_drawRain := nw_c nwe_272 (nw_a (nw_c nwe_246 (nw_c nwe_273 (nw_c nwe_242 nw_n))) (nwl_X50))
def nwp_X5_smellOf_r1 : List Nat := [241, 231, 244, 274, 275, 276, 192, 184, 181, 185, 277, 278, 279, 188, 182, 189, 106, 107, 87, 102, 76, 82, 190, 191]
theorem nwl_X5_smellOf_r1 : nwp_X5_smellOf_r1.map nw = wsX5_smellOf_r1 := nw_c nwe_241 (nw_c nwe_231 (nw_c nwe_244 (nw_c nwe_274 (nw_c nwe_275 (nw_c nwe_276 (nw_c nwe_192 (nw_c nwe_184 (nw_c nwe_181 (nw_c nwe_185 (nw_c nwe_277 (nw_c nwe_278 (nw_c nwe_279 (nw_c nwe_188 (nw_c nwe_182 (nw_c nwe_189 (nw_c nwe_106 (nw_c nwe_107 (nw_c nwe_87 (nw_c nwe_102 (nw_c nwe_76 (nw_c nwe_82 (nw_c nwe_190 (nw_c nwe_191 nw_n)))))))))))))))))))))))
def nwp_X5_smellOf_r2 : List Nat := [186, 193, 194, 187]
theorem nwl_X5_smellOf_r2 : nwp_X5_smellOf_r2.map nw = wsX5_smellOf_r2 := nw_c nwe_186 (nw_c nwe_193 (nw_c nwe_194 (nw_c nwe_187 nw_n)))
def nwp_X5_smellOf : List Nat := 280 :: (((((nwp_X5_smellOf_r1 ++ nwp_X5_smellOf_r2) ++ nwp_X50) ++ nwp_X30) ++ nwp_X10))
theorem nwl_X5_smellOf : nwp_X5_smellOf.map nw = wsX5_smellOf := nw_c nwe_280 (nw_a (nw_a (nw_a (nw_a (nwl_X5_smellOf_r1) (nwl_X5_smellOf_r2)) (nwl_X50)) (nwl_X30)) (nwl_X10))
def nwp_X5_morning_r1 : List Nat := [231, 242, 263, 96, 79, 97, 247, 281, 282, 283, 259, 280, 241, 244, 274, 275, 276, 192, 184, 181, 185, 277, 278, 279]
theorem nwl_X5_morning_r1 : nwp_X5_morning_r1.map nw = wsX5_morning_r1 := nw_c nwe_231 (nw_c nwe_242 (nw_c nwe_263 (nw_c nwe_96 (nw_c nwe_79 (nw_c nwe_97 (nw_c nwe_247 (nw_c nwe_281 (nw_c nwe_282 (nw_c nwe_283 (nw_c nwe_259 (nw_c nwe_280 (nw_c nwe_241 (nw_c nwe_244 (nw_c nwe_274 (nw_c nwe_275 (nw_c nwe_276 (nw_c nwe_192 (nw_c nwe_184 (nw_c nwe_181 (nw_c nwe_185 (nw_c nwe_277 (nw_c nwe_278 (nw_c nwe_279 nw_n)))))))))))))))))))))))
def nwp_X5_morning_r2 : List Nat := [188, 182, 189, 106, 107, 87, 102, 76, 82, 190, 191, 186, 193, 194, 187]
theorem nwl_X5_morning_r2 : nwp_X5_morning_r2.map nw = wsX5_morning_r2 := nw_c nwe_188 (nw_c nwe_182 (nw_c nwe_189 (nw_c nwe_106 (nw_c nwe_107 (nw_c nwe_87 (nw_c nwe_102 (nw_c nwe_76 (nw_c nwe_82 (nw_c nwe_190 (nw_c nwe_191 (nw_c nwe_186 (nw_c nwe_193 (nw_c nwe_194 (nw_c nwe_187 nw_n))))))))))))))
def nwp_X5_morning : List Nat := 284 :: (((((nwp_X5_morning_r1 ++ nwp_X5_morning_r2) ++ nwp_X50) ++ nwp_X30) ++ nwp_X10))
theorem nwl_X5_morning : nwp_X5_morning.map nw = wsX5_morning := nw_c nwe_284 (nw_a (nw_a (nw_a (nw_a (nwl_X5_morning_r1) (nwl_X5_morning_r2)) (nwl_X50)) (nwl_X30)) (nwl_X10))
def nwp_X5_beside : List Nat := 285 :: ([])
theorem nwl_X5_beside : nwp_X5_beside.map nw = wsX5_beside := nw_c nwe_285 (nw_n)
def nwp_X5_bestSmell : List Nat := 286 :: (([243, 287, 288, 79, 289, 247] ++ nwp_X50))
theorem nwl_X5_bestSmell : nwp_X5_bestSmell.map nw = wsX5_bestSmell := nw_c nwe_286 (nw_a (nw_c nwe_243 (nw_c nwe_287 (nw_c nwe_288 (nw_c nwe_79 (nw_c nwe_289 (nw_c nwe_247 nw_n)))))) (nwl_X50))
def nwp_X5_hours_r1 : List Nat := [248, 244, 243, 237, 231, 263, 96, 79, 97, 247, 250, 172, 173, 167, 290, 291, 259, 285, 292, 293, 294, 286, 287, 288]
theorem nwl_X5_hours_r1 : nwp_X5_hours_r1.map nw = wsX5_hours_r1 := nw_c nwe_248 (nw_c nwe_244 (nw_c nwe_243 (nw_c nwe_237 (nw_c nwe_231 (nw_c nwe_263 (nw_c nwe_96 (nw_c nwe_79 (nw_c nwe_97 (nw_c nwe_247 (nw_c nwe_250 (nw_c nwe_172 (nw_c nwe_173 (nw_c nwe_167 (nw_c nwe_290 (nw_c nwe_291 (nw_c nwe_259 (nw_c nwe_285 (nw_c nwe_292 (nw_c nwe_293 (nw_c nwe_294 (nw_c nwe_286 (nw_c nwe_287 (nw_c nwe_288 nw_n)))))))))))))))))))))))
def nwp_X5_hours_r2 : List Nat := [289, 281, 282, 283, 280, 241, 274, 275, 276, 192, 184, 181, 185, 277, 278, 279, 188, 182, 189, 106, 107, 87, 102, 76]
theorem nwl_X5_hours_r2 : nwp_X5_hours_r2.map nw = wsX5_hours_r2 := nw_c nwe_289 (nw_c nwe_281 (nw_c nwe_282 (nw_c nwe_283 (nw_c nwe_280 (nw_c nwe_241 (nw_c nwe_274 (nw_c nwe_275 (nw_c nwe_276 (nw_c nwe_192 (nw_c nwe_184 (nw_c nwe_181 (nw_c nwe_185 (nw_c nwe_277 (nw_c nwe_278 (nw_c nwe_279 (nw_c nwe_188 (nw_c nwe_182 (nw_c nwe_189 (nw_c nwe_106 (nw_c nwe_107 (nw_c nwe_87 (nw_c nwe_102 (nw_c nwe_76 nw_n)))))))))))))))))))))))
def nwp_X5_hours_r3 : List Nat := [82, 190, 191, 186, 193, 194, 187]
theorem nwl_X5_hours_r3 : nwp_X5_hours_r3.map nw = wsX5_hours_r3 := nw_c nwe_82 (nw_c nwe_190 (nw_c nwe_191 (nw_c nwe_186 (nw_c nwe_193 (nw_c nwe_194 (nw_c nwe_187 nw_n))))))
def nwp_X5_hours : List Nat := 295 :: (((((nwp_X5_hours_r1 ++ (nwp_X5_hours_r2 ++ nwp_X5_hours_r3)) ++ nwp_X50) ++ nwp_X30) ++ nwp_X10))
theorem nwl_X5_hours : nwp_X5_hours.map nw = wsX5_hours := nw_c nwe_295 (nw_a (nw_a (nw_a (nw_a (nwl_X5_hours_r1) (nw_a (nwl_X5_hours_r2) (nwl_X5_hours_r3))) (nwl_X50)) (nwl_X30)) (nwl_X10))
def nwp_X5_toPurse : List Nat := 296 :: (([234, 297, 263, 96, 79, 97] ++ nwp_X50))
theorem nwl_X5_toPurse : nwp_X5_toPurse.map nw = wsX5_toPurse := nw_c nwe_296 (nw_a (nw_c nwe_234 (nw_c nwe_297 (nw_c nwe_263 (nw_c nwe_96 (nw_c nwe_79 (nw_c nwe_97 nw_n)))))) (nwl_X50))
def nwp_X5_partOut : List Nat := 298 :: (([232, 233, 235, 297, 263, 96, 79, 97, 299, 300, 301, 259, 296, 234] ++ nwp_X50))
theorem nwl_X5_partOut : nwp_X5_partOut.map nw = wsX5_partOut := nw_c nwe_298 (nw_a (nw_c nwe_232 (nw_c nwe_233 (nw_c nwe_235 (nw_c nwe_297 (nw_c nwe_263 (nw_c nwe_96 (nw_c nwe_79 (nw_c nwe_97 (nw_c nwe_299 (nw_c nwe_300 (nw_c nwe_301 (nw_c nwe_259 (nw_c nwe_296 (nw_c nwe_234 nw_n)))))))))))))) (nwl_X50))
def nwp_X5_held : List Nat := 302 :: ([263, 96, 79, 97, 264, 78, 80])
theorem nwl_X5_held : nwp_X5_held.map nw = wsX5_held := nw_c nwe_302 (nw_c nwe_263 (nw_c nwe_96 (nw_c nwe_79 (nw_c nwe_97 (nw_c nwe_264 (nw_c nwe_78 (nw_c nwe_80 nw_n)))))))
def nwp_X5_feedsOf_r1 : List Nat := [233, 232, 240, 244, 303, 304, 259, 302, 263, 96, 79, 97, 264, 78, 80, 274, 275, 276, 192, 184, 181, 185, 277, 278]
theorem nwl_X5_feedsOf_r1 : nwp_X5_feedsOf_r1.map nw = wsX5_feedsOf_r1 := nw_c nwe_233 (nw_c nwe_232 (nw_c nwe_240 (nw_c nwe_244 (nw_c nwe_303 (nw_c nwe_304 (nw_c nwe_259 (nw_c nwe_302 (nw_c nwe_263 (nw_c nwe_96 (nw_c nwe_79 (nw_c nwe_97 (nw_c nwe_264 (nw_c nwe_78 (nw_c nwe_80 (nw_c nwe_274 (nw_c nwe_275 (nw_c nwe_276 (nw_c nwe_192 (nw_c nwe_184 (nw_c nwe_181 (nw_c nwe_185 (nw_c nwe_277 (nw_c nwe_278 nw_n)))))))))))))))))))))))
def nwp_X5_feedsOf_r2 : List Nat := [279, 188, 182, 189, 106, 107, 87, 102, 76, 82, 190, 191, 186, 193, 194, 187]
theorem nwl_X5_feedsOf_r2 : nwp_X5_feedsOf_r2.map nw = wsX5_feedsOf_r2 := nw_c nwe_279 (nw_c nwe_188 (nw_c nwe_182 (nw_c nwe_189 (nw_c nwe_106 (nw_c nwe_107 (nw_c nwe_87 (nw_c nwe_102 (nw_c nwe_76 (nw_c nwe_82 (nw_c nwe_190 (nw_c nwe_191 (nw_c nwe_186 (nw_c nwe_193 (nw_c nwe_194 (nw_c nwe_187 nw_n)))))))))))))))
def nwp_X5_feedsOf : List Nat := 305 :: (((((nwp_X5_feedsOf_r1 ++ nwp_X5_feedsOf_r2) ++ nwp_X50) ++ nwp_X30) ++ nwp_X10))
theorem nwl_X5_feedsOf : nwp_X5_feedsOf.map nw = wsX5_feedsOf := nw_c nwe_305 (nw_a (nw_a (nw_a (nw_a (nwl_X5_feedsOf_r1) (nwl_X5_feedsOf_r2)) (nwl_X50)) (nwl_X30)) (nwl_X10))
def nwp_X5_oneDay_r1 : List Nat := [244, 245, 306, 307, 308, 259, 269, 236, 309, 310, 311, 284, 231, 242, 263, 96, 79, 97, 247, 281, 282, 283, 280, 241]
theorem nwl_X5_oneDay_r1 : nwp_X5_oneDay_r1.map nw = wsX5_oneDay_r1 := nw_c nwe_244 (nw_c nwe_245 (nw_c nwe_306 (nw_c nwe_307 (nw_c nwe_308 (nw_c nwe_259 (nw_c nwe_269 (nw_c nwe_236 (nw_c nwe_309 (nw_c nwe_310 (nw_c nwe_311 (nw_c nwe_284 (nw_c nwe_231 (nw_c nwe_242 (nw_c nwe_263 (nw_c nwe_96 (nw_c nwe_79 (nw_c nwe_97 (nw_c nwe_247 (nw_c nwe_281 (nw_c nwe_282 (nw_c nwe_283 (nw_c nwe_280 (nw_c nwe_241 nw_n)))))))))))))))))))))))
def nwp_X5_oneDay_r2 : List Nat := [274, 275, 276, 192, 184, 181, 185, 277, 278, 279, 188, 182, 189, 106, 107, 87, 102, 76, 82, 190, 191, 186, 193, 194]
theorem nwl_X5_oneDay_r2 : nwp_X5_oneDay_r2.map nw = wsX5_oneDay_r2 := nw_c nwe_274 (nw_c nwe_275 (nw_c nwe_276 (nw_c nwe_192 (nw_c nwe_184 (nw_c nwe_181 (nw_c nwe_185 (nw_c nwe_277 (nw_c nwe_278 (nw_c nwe_279 (nw_c nwe_188 (nw_c nwe_182 (nw_c nwe_189 (nw_c nwe_106 (nw_c nwe_107 (nw_c nwe_87 (nw_c nwe_102 (nw_c nwe_76 (nw_c nwe_82 (nw_c nwe_190 (nw_c nwe_191 (nw_c nwe_186 (nw_c nwe_193 (nw_c nwe_194 nw_n)))))))))))))))))))))))
def nwp_X5_oneDay_r3 : List Nat := [187, 312, 313, 314, 295, 248, 243, 237, 250, 172, 173, 167, 290, 291, 285, 292, 293, 294, 286, 287, 288, 289, 315, 316]
theorem nwl_X5_oneDay_r3 : nwp_X5_oneDay_r3.map nw = wsX5_oneDay_r3 := nw_c nwe_187 (nw_c nwe_312 (nw_c nwe_313 (nw_c nwe_314 (nw_c nwe_295 (nw_c nwe_248 (nw_c nwe_243 (nw_c nwe_237 (nw_c nwe_250 (nw_c nwe_172 (nw_c nwe_173 (nw_c nwe_167 (nw_c nwe_290 (nw_c nwe_291 (nw_c nwe_285 (nw_c nwe_292 (nw_c nwe_293 (nw_c nwe_294 (nw_c nwe_286 (nw_c nwe_287 (nw_c nwe_288 (nw_c nwe_289 (nw_c nwe_315 (nw_c nwe_316 nw_n)))))))))))))))))))))))
def nwp_X5_oneDay_r4 : List Nat := [317, 298, 232, 233, 235, 297, 299, 300, 301, 296, 234, 318, 319, 320, 305, 240, 303, 304, 302, 264, 78, 80]
theorem nwl_X5_oneDay_r4 : nwp_X5_oneDay_r4.map nw = wsX5_oneDay_r4 := nw_c nwe_317 (nw_c nwe_298 (nw_c nwe_232 (nw_c nwe_233 (nw_c nwe_235 (nw_c nwe_297 (nw_c nwe_299 (nw_c nwe_300 (nw_c nwe_301 (nw_c nwe_296 (nw_c nwe_234 (nw_c nwe_318 (nw_c nwe_319 (nw_c nwe_320 (nw_c nwe_305 (nw_c nwe_240 (nw_c nwe_303 (nw_c nwe_304 (nw_c nwe_302 (nw_c nwe_264 (nw_c nwe_78 (nw_c nwe_80 nw_n)))))))))))))))))))))
def nwp_X5_oneDay : List Nat := 321 :: (((((nwp_X5_oneDay_r1 ++ (nwp_X5_oneDay_r2 ++ (nwp_X5_oneDay_r3 ++ nwp_X5_oneDay_r4))) ++ nwp_X50) ++ nwp_X30) ++ nwp_X10))
theorem nwl_X5_oneDay : nwp_X5_oneDay.map nw = wsX5_oneDay := nw_c nwe_321 (nw_a (nw_a (nw_a (nw_a (nwl_X5_oneDay_r1) (nw_a (nwl_X5_oneDay_r2) (nw_a (nwl_X5_oneDay_r3) (nwl_X5_oneDay_r4)))) (nwl_X50)) (nwl_X30)) (nwl_X10))
def nwp_X5_goOn_r1 : List Nat := [322, 323, 324, 259, 321, 244, 245, 306, 307, 308, 269, 236, 309, 310, 311, 284, 231, 242, 263, 96, 79, 97, 247, 281]
theorem nwl_X5_goOn_r1 : nwp_X5_goOn_r1.map nw = wsX5_goOn_r1 := nw_c nwe_322 (nw_c nwe_323 (nw_c nwe_324 (nw_c nwe_259 (nw_c nwe_321 (nw_c nwe_244 (nw_c nwe_245 (nw_c nwe_306 (nw_c nwe_307 (nw_c nwe_308 (nw_c nwe_269 (nw_c nwe_236 (nw_c nwe_309 (nw_c nwe_310 (nw_c nwe_311 (nw_c nwe_284 (nw_c nwe_231 (nw_c nwe_242 (nw_c nwe_263 (nw_c nwe_96 (nw_c nwe_79 (nw_c nwe_97 (nw_c nwe_247 (nw_c nwe_281 nw_n)))))))))))))))))))))))
def nwp_X5_goOn_r2 : List Nat := [282, 283, 280, 241, 274, 275, 276, 192, 184, 181, 185, 277, 278, 279, 188, 182, 189, 106, 107, 87, 102, 76, 82, 190]
theorem nwl_X5_goOn_r2 : nwp_X5_goOn_r2.map nw = wsX5_goOn_r2 := nw_c nwe_282 (nw_c nwe_283 (nw_c nwe_280 (nw_c nwe_241 (nw_c nwe_274 (nw_c nwe_275 (nw_c nwe_276 (nw_c nwe_192 (nw_c nwe_184 (nw_c nwe_181 (nw_c nwe_185 (nw_c nwe_277 (nw_c nwe_278 (nw_c nwe_279 (nw_c nwe_188 (nw_c nwe_182 (nw_c nwe_189 (nw_c nwe_106 (nw_c nwe_107 (nw_c nwe_87 (nw_c nwe_102 (nw_c nwe_76 (nw_c nwe_82 (nw_c nwe_190 nw_n)))))))))))))))))))))))
def nwp_X5_goOn_r3 : List Nat := [191, 186, 193, 194, 187, 312, 313, 314, 295, 248, 243, 237, 250, 172, 173, 167, 290, 291, 285, 292, 293, 294, 286, 287]
theorem nwl_X5_goOn_r3 : nwp_X5_goOn_r3.map nw = wsX5_goOn_r3 := nw_c nwe_191 (nw_c nwe_186 (nw_c nwe_193 (nw_c nwe_194 (nw_c nwe_187 (nw_c nwe_312 (nw_c nwe_313 (nw_c nwe_314 (nw_c nwe_295 (nw_c nwe_248 (nw_c nwe_243 (nw_c nwe_237 (nw_c nwe_250 (nw_c nwe_172 (nw_c nwe_173 (nw_c nwe_167 (nw_c nwe_290 (nw_c nwe_291 (nw_c nwe_285 (nw_c nwe_292 (nw_c nwe_293 (nw_c nwe_294 (nw_c nwe_286 (nw_c nwe_287 nw_n)))))))))))))))))))))))
def nwp_X5_goOn_r4 : List Nat := [288, 289, 315, 316, 317, 298, 232, 233, 235, 297, 299, 300, 301, 296, 234, 318, 319, 320, 305, 240, 303, 304, 302, 264]
theorem nwl_X5_goOn_r4 : nwp_X5_goOn_r4.map nw = wsX5_goOn_r4 := nw_c nwe_288 (nw_c nwe_289 (nw_c nwe_315 (nw_c nwe_316 (nw_c nwe_317 (nw_c nwe_298 (nw_c nwe_232 (nw_c nwe_233 (nw_c nwe_235 (nw_c nwe_297 (nw_c nwe_299 (nw_c nwe_300 (nw_c nwe_301 (nw_c nwe_296 (nw_c nwe_234 (nw_c nwe_318 (nw_c nwe_319 (nw_c nwe_320 (nw_c nwe_305 (nw_c nwe_240 (nw_c nwe_303 (nw_c nwe_304 (nw_c nwe_302 (nw_c nwe_264 nw_n)))))))))))))))))))))))
def nwp_X5_goOn_r5 : List Nat := [78, 80]
theorem nwl_X5_goOn_r5 : nwp_X5_goOn_r5.map nw = wsX5_goOn_r5 := nw_c nwe_78 (nw_c nwe_80 nw_n)
def nwp_X5_goOn : List Nat := 325 :: (((((nwp_X5_goOn_r1 ++ (nwp_X5_goOn_r2 ++ (nwp_X5_goOn_r3 ++ (nwp_X5_goOn_r4 ++ nwp_X5_goOn_r5)))) ++ nwp_X50) ++ nwp_X30) ++ nwp_X10))
theorem nwl_X5_goOn : nwp_X5_goOn.map nw = wsX5_goOn := nw_c nwe_325 (nw_a (nw_a (nw_a (nw_a (nwl_X5_goOn_r1) (nw_a (nwl_X5_goOn_r2) (nw_a (nwl_X5_goOn_r3) (nw_a (nwl_X5_goOn_r4) (nwl_X5_goOn_r5))))) (nwl_X50)) (nwl_X30)) (nwl_X10))
def nwp_X6_init_r1 : List Nat := [326, 74, 75, 327, 328, 259, 329, 330, 86, 87, 331, 332, 333, 334, 335, 336, 337, 338, 81, 339, 340, 341, 342, 114]
theorem nwl_X6_init_r1 : nwp_X6_init_r1.map nw = wsX6_init_r1 := nw_c nwe_326 (nw_c nwe_74 (nw_c nwe_75 (nw_c nwe_327 (nw_c nwe_328 (nw_c nwe_259 (nw_c nwe_329 (nw_c nwe_330 (nw_c nwe_86 (nw_c nwe_87 (nw_c nwe_331 (nw_c nwe_332 (nw_c nwe_333 (nw_c nwe_334 (nw_c nwe_335 (nw_c nwe_336 (nw_c nwe_337 (nw_c nwe_338 (nw_c nwe_81 (nw_c nwe_339 (nw_c nwe_340 (nw_c nwe_341 (nw_c nwe_342 (nw_c nwe_114 nw_n)))))))))))))))))))))))
def nwp_X6_init_r2 : List Nat := [343, 344, 345, 208, 346, 347, 348, 349, 350, 351, 352, 353, 251, 229, 230, 231, 232, 233, 234, 235, 236, 237, 238, 239]
theorem nwl_X6_init_r2 : nwp_X6_init_r2.map nw = wsX6_init_r2 := nw_c nwe_343 (nw_c nwe_344 (nw_c nwe_345 (nw_c nwe_208 (nw_c nwe_346 (nw_c nwe_347 (nw_c nwe_348 (nw_c nwe_349 (nw_c nwe_350 (nw_c nwe_351 (nw_c nwe_352 (nw_c nwe_353 (nw_c nwe_251 (nw_c nwe_229 (nw_c nwe_230 (nw_c nwe_231 (nw_c nwe_232 (nw_c nwe_233 (nw_c nwe_234 (nw_c nwe_235 (nw_c nwe_236 (nw_c nwe_237 (nw_c nwe_238 (nw_c nwe_239 nw_n)))))))))))))))))))))))
def nwp_X6_init_r3 : List Nat := [192, 240, 241, 242, 243, 244, 245, 246, 247, 248, 249, 178, 179, 180, 181, 182, 183, 93, 72, 73, 76, 77, 78, 79]
theorem nwl_X6_init_r3 : nwp_X6_init_r3.map nw = wsX6_init_r3 := nw_c nwe_192 (nw_c nwe_240 (nw_c nwe_241 (nw_c nwe_242 (nw_c nwe_243 (nw_c nwe_244 (nw_c nwe_245 (nw_c nwe_246 (nw_c nwe_247 (nw_c nwe_248 (nw_c nwe_249 (nw_c nwe_178 (nw_c nwe_179 (nw_c nwe_180 (nw_c nwe_181 (nw_c nwe_182 (nw_c nwe_183 (nw_c nwe_93 (nw_c nwe_72 (nw_c nwe_73 (nw_c nwe_76 (nw_c nwe_77 (nw_c nwe_78 (nw_c nwe_79 nw_n)))))))))))))))))))))))
def nwp_X6_init_r4 : List Nat := [80, 82, 250, 172, 173, 167, 354, 355, 83, 84, 85, 88, 89, 90, 91, 92, 356, 195, 196, 197, 198, 199, 200, 201]
theorem nwl_X6_init_r4 : nwp_X6_init_r4.map nw = wsX6_init_r4 := nw_c nwe_80 (nw_c nwe_82 (nw_c nwe_250 (nw_c nwe_172 (nw_c nwe_173 (nw_c nwe_167 (nw_c nwe_354 (nw_c nwe_355 (nw_c nwe_83 (nw_c nwe_84 (nw_c nwe_85 (nw_c nwe_88 (nw_c nwe_89 (nw_c nwe_90 (nw_c nwe_91 (nw_c nwe_92 (nw_c nwe_356 (nw_c nwe_195 (nw_c nwe_196 (nw_c nwe_197 (nw_c nwe_198 (nw_c nwe_199 (nw_c nwe_200 (nw_c nwe_201 nw_n)))))))))))))))))))))))
def nwp_X6_init_r5 : List Nat := [202, 203, 357, 161, 162, 163, 164, 165]
theorem nwl_X6_init_r5 : nwp_X6_init_r5.map nw = wsX6_init_r5 := nw_c nwe_202 (nw_c nwe_203 (nw_c nwe_357 (nw_c nwe_161 (nw_c nwe_162 (nw_c nwe_163 (nw_c nwe_164 (nw_c nwe_165 nw_n)))))))
def nwp_X6_init : List Nat := 358 :: (((((((((nwp_X6_init_r1 ++ (nwp_X6_init_r2 ++ (nwp_X6_init_r3 ++ (nwp_X6_init_r4 ++ nwp_X6_init_r5)))) ++ nwp_X50) ++ nwp_X60) ++ nwp_X10) ++ nwp_X00) ++ nwp_X40) ++ nwp_X20) ++ nwp_X30))
theorem nwl_X6_init : nwp_X6_init.map nw = wsX6_init := nw_c nwe_358 (nw_a (nw_a (nw_a (nw_a (nw_a (nw_a (nw_a (nw_a (nwl_X6_init_r1) (nw_a (nwl_X6_init_r2) (nw_a (nwl_X6_init_r3) (nw_a (nwl_X6_init_r4) (nwl_X6_init_r5))))) (nwl_X50)) (nwl_X60)) (nwl_X10)) (nwl_X00)) (nwl_X40)) (nwl_X20)) (nwl_X30))
def nwp_X6_within : List Nat := 359 :: ([])
theorem nwl_X6_within : nwp_X6_within.map nw = wsX6_within := nw_c nwe_359 (nw_n)
def nwp_X6_isOak : List Nat := 360 :: ([361, 362, 363, 359])
theorem nwl_X6_isOak : nwp_X6_isOak.map nw = wsX6_isOak := nw_c nwe_360 (nw_c nwe_361 (nw_c nwe_362 (nw_c nwe_363 (nw_c nwe_359 nw_n))))
def nwp_X6_error : List Nat := 364 :: (([349, 365] ++ nwp_X60))
theorem nwl_X6_error : nwp_X6_error.map nw = wsX6_error := nw_c nwe_364 (nw_a (nw_c nwe_349 (nw_c nwe_365 nw_n)) (nwl_X60))
def nwp_X6_isFarmer : List Nat := 366 :: ([361, 362, 363, 359])
theorem nwl_X6_isFarmer : nwp_X6_isFarmer.map nw = wsX6_isFarmer := nw_c nwe_366 (nw_c nwe_361 (nw_c nwe_362 (nw_c nwe_363 (nw_c nwe_359 nw_n))))
def nwp_X6_oak : List Nat := 367 :: ((([329, 368, 369, 370, 371, 363, 360, 361, 362, 359, 372, 373, 374, 364, 349, 365, 375, 376, 366] ++ nwp_X60) ++ nwp_X50))
theorem nwl_X6_oak : nwp_X6_oak.map nw = wsX6_oak := nw_c nwe_367 (nw_a (nw_a (nw_c nwe_329 (nw_c nwe_368 (nw_c nwe_369 (nw_c nwe_370 (nw_c nwe_371 (nw_c nwe_363 (nw_c nwe_360 (nw_c nwe_361 (nw_c nwe_362 (nw_c nwe_359 (nw_c nwe_372 (nw_c nwe_373 (nw_c nwe_374 (nw_c nwe_364 (nw_c nwe_349 (nw_c nwe_365 (nw_c nwe_375 (nw_c nwe_376 (nw_c nwe_366 nw_n))))))))))))))))))) (nwl_X60)) (nwl_X50))
def nwp_X6_oakIs_r1 : List Nat := [329, 368, 369, 370, 371, 363, 360, 361, 362, 359, 372, 373, 374, 364, 349, 365, 377, 282, 283, 259, 280, 241, 231, 244]
theorem nwl_X6_oakIs_r1 : nwp_X6_oakIs_r1.map nw = wsX6_oakIs_r1 := nw_c nwe_329 (nw_c nwe_368 (nw_c nwe_369 (nw_c nwe_370 (nw_c nwe_371 (nw_c nwe_363 (nw_c nwe_360 (nw_c nwe_361 (nw_c nwe_362 (nw_c nwe_359 (nw_c nwe_372 (nw_c nwe_373 (nw_c nwe_374 (nw_c nwe_364 (nw_c nwe_349 (nw_c nwe_365 (nw_c nwe_377 (nw_c nwe_282 (nw_c nwe_283 (nw_c nwe_259 (nw_c nwe_280 (nw_c nwe_241 (nw_c nwe_231 (nw_c nwe_244 nw_n)))))))))))))))))))))))
def nwp_X6_oakIs_r2 : List Nat := [274, 275, 276, 192, 184, 181, 185, 277, 278, 279, 188, 182, 189, 106, 107, 87, 102, 76, 82, 190, 191, 186, 193, 194]
theorem nwl_X6_oakIs_r2 : nwp_X6_oakIs_r2.map nw = wsX6_oakIs_r2 := nw_c nwe_274 (nw_c nwe_275 (nw_c nwe_276 (nw_c nwe_192 (nw_c nwe_184 (nw_c nwe_181 (nw_c nwe_185 (nw_c nwe_277 (nw_c nwe_278 (nw_c nwe_279 (nw_c nwe_188 (nw_c nwe_182 (nw_c nwe_189 (nw_c nwe_106 (nw_c nwe_107 (nw_c nwe_87 (nw_c nwe_102 (nw_c nwe_76 (nw_c nwe_82 (nw_c nwe_190 (nw_c nwe_191 (nw_c nwe_186 (nw_c nwe_193 (nw_c nwe_194 nw_n)))))))))))))))))))))))
def nwp_X6_oakIs_r3 : List Nat := [187]
theorem nwl_X6_oakIs_r3 : nwp_X6_oakIs_r3.map nw = wsX6_oakIs_r3 := nw_c nwe_187 nw_n
def nwp_X6_oakIs : List Nat := 378 :: ((((((nwp_X6_oakIs_r1 ++ (nwp_X6_oakIs_r2 ++ nwp_X6_oakIs_r3)) ++ nwp_X60) ++ nwp_X50) ++ nwp_X30) ++ nwp_X10))
theorem nwl_X6_oakIs : nwp_X6_oakIs.map nw = wsX6_oakIs := nw_c nwe_378 (nw_a (nw_a (nw_a (nw_a (nw_a (nwl_X6_oakIs_r1) (nw_a (nwl_X6_oakIs_r2) (nwl_X6_oakIs_r3))) (nwl_X60)) (nwl_X50)) (nwl_X30)) (nwl_X10))
def nwp_X6_rain : List Nat := 379 :: ((([329, 380, 361, 362, 363, 359, 372, 373, 374, 364, 349, 365] ++ nwp_X60) ++ nwp_X50))
theorem nwl_X6_rain : nwp_X6_rain.map nw = wsX6_rain := nw_c nwe_379 (nw_a (nw_a (nw_c nwe_329 (nw_c nwe_380 (nw_c nwe_361 (nw_c nwe_362 (nw_c nwe_363 (nw_c nwe_359 (nw_c nwe_372 (nw_c nwe_373 (nw_c nwe_374 (nw_c nwe_364 (nw_c nwe_349 (nw_c nwe_365 nw_n)))))))))))) (nwl_X60)) (nwl_X50))
def nwp_X6_farmer : List Nat := 381 :: ((([329, 382, 383, 375, 376, 363, 366, 361, 362, 359, 372, 373, 374, 364, 349, 365] ++ nwp_X60) ++ nwp_X50))
theorem nwl_X6_farmer : nwp_X6_farmer.map nw = wsX6_farmer := nw_c nwe_381 (nw_a (nw_a (nw_c nwe_329 (nw_c nwe_382 (nw_c nwe_383 (nw_c nwe_375 (nw_c nwe_376 (nw_c nwe_363 (nw_c nwe_366 (nw_c nwe_361 (nw_c nwe_362 (nw_c nwe_359 (nw_c nwe_372 (nw_c nwe_373 (nw_c nwe_374 (nw_c nwe_364 (nw_c nwe_349 (nw_c nwe_365 nw_n)))))))))))))))) (nwl_X60)) (nwl_X50))
def nwp_X6_farmerIs_r1 : List Nat := [329, 375, 376, 363, 366, 361, 362, 359, 372, 373, 374, 364, 349, 365, 384, 385, 386, 259, 265, 232, 233, 234, 235, 236]
theorem nwl_X6_farmerIs_r1 : nwp_X6_farmerIs_r1.map nw = wsX6_farmerIs_r1 := nw_c nwe_329 (nw_c nwe_375 (nw_c nwe_376 (nw_c nwe_363 (nw_c nwe_366 (nw_c nwe_361 (nw_c nwe_362 (nw_c nwe_359 (nw_c nwe_372 (nw_c nwe_373 (nw_c nwe_374 (nw_c nwe_364 (nw_c nwe_349 (nw_c nwe_365 (nw_c nwe_384 (nw_c nwe_385 (nw_c nwe_386 (nw_c nwe_259 (nw_c nwe_265 (nw_c nwe_232 (nw_c nwe_233 (nw_c nwe_234 (nw_c nwe_235 (nw_c nwe_236 nw_n)))))))))))))))))))))))
def nwp_X6_farmerIs_r2 : List Nat := [237, 266, 267, 262, 263, 96, 79, 97, 264, 78, 80]
theorem nwl_X6_farmerIs_r2 : nwp_X6_farmerIs_r2.map nw = wsX6_farmerIs_r2 := nw_c nwe_237 (nw_c nwe_266 (nw_c nwe_267 (nw_c nwe_262 (nw_c nwe_263 (nw_c nwe_96 (nw_c nwe_79 (nw_c nwe_97 (nw_c nwe_264 (nw_c nwe_78 (nw_c nwe_80 nw_n))))))))))
def nwp_X6_farmerIs : List Nat := 387 :: ((((nwp_X6_farmerIs_r1 ++ nwp_X6_farmerIs_r2) ++ nwp_X60) ++ nwp_X50))
theorem nwl_X6_farmerIs : nwp_X6_farmerIs.map nw = wsX6_farmerIs := nw_c nwe_387 (nw_a (nw_a (nw_a (nwl_X6_farmerIs_r1) (nwl_X6_farmerIs_r2)) (nwl_X60)) (nwl_X50))
def nwp_X6_isOfKind : List Nat := 388 :: ([389])
theorem nwl_X6_isOfKind : nwp_X6_isOfKind.map nw = wsX6_isOfKind := nw_c nwe_388 (nw_c nwe_389 nw_n)
def nwp_X6_as : List Nat := 390 :: ((([329, 382, 383, 375, 376, 363, 366, 361, 362, 359, 372, 373, 374, 364, 349, 365, 391, 392, 388, 389] ++ nwp_X60) ++ nwp_X50))
theorem nwl_X6_as : nwp_X6_as.map nw = wsX6_as := nw_c nwe_390 (nw_a (nw_a (nw_c nwe_329 (nw_c nwe_382 (nw_c nwe_383 (nw_c nwe_375 (nw_c nwe_376 (nw_c nwe_363 (nw_c nwe_366 (nw_c nwe_361 (nw_c nwe_362 (nw_c nwe_359 (nw_c nwe_372 (nw_c nwe_373 (nw_c nwe_374 (nw_c nwe_364 (nw_c nwe_349 (nw_c nwe_365 (nw_c nwe_391 (nw_c nwe_392 (nw_c nwe_388 (nw_c nwe_389 nw_n)))))))))))))))))))) (nwl_X60)) (nwl_X50))
def nwp_X6_trade : List Nat := 393 :: ((([329, 394, 375, 376, 363, 366, 361, 362, 359, 372, 373, 374, 364, 349, 365, 395, 396, 397, 259, 268, 236] ++ nwp_X60) ++ nwp_X50))
theorem nwl_X6_trade : nwp_X6_trade.map nw = wsX6_trade := nw_c nwe_393 (nw_a (nw_a (nw_c nwe_329 (nw_c nwe_394 (nw_c nwe_375 (nw_c nwe_376 (nw_c nwe_363 (nw_c nwe_366 (nw_c nwe_361 (nw_c nwe_362 (nw_c nwe_359 (nw_c nwe_372 (nw_c nwe_373 (nw_c nwe_374 (nw_c nwe_364 (nw_c nwe_349 (nw_c nwe_365 (nw_c nwe_395 (nw_c nwe_396 (nw_c nwe_397 (nw_c nwe_259 (nw_c nwe_268 (nw_c nwe_236 nw_n))))))))))))))))))))) (nwl_X60)) (nwl_X50))
def nwp_X6_leash : List Nat := 398 :: ((([329, 399, 375, 376, 363, 366, 361, 362, 359, 372, 373, 374, 364, 349, 365] ++ nwp_X60) ++ nwp_X50))
theorem nwl_X6_leash : nwp_X6_leash.map nw = wsX6_leash := nw_c nwe_398 (nw_a (nw_a (nw_c nwe_329 (nw_c nwe_399 (nw_c nwe_375 (nw_c nwe_376 (nw_c nwe_363 (nw_c nwe_366 (nw_c nwe_361 (nw_c nwe_362 (nw_c nwe_359 (nw_c nwe_372 (nw_c nwe_373 (nw_c nwe_374 (nw_c nwe_364 (nw_c nwe_349 (nw_c nwe_365 nw_n))))))))))))))) (nwl_X60)) (nwl_X50))
def nwp_X6_pig : List Nat := 400 :: ((([329, 401, 402, 370, 371, 363, 360, 361, 362, 359, 372, 373, 374, 364, 349, 365] ++ nwp_X60) ++ nwp_X50))
theorem nwl_X6_pig : nwp_X6_pig.map nw = wsX6_pig := nw_c nwe_400 (nw_a (nw_a (nw_c nwe_329 (nw_c nwe_401 (nw_c nwe_402 (nw_c nwe_370 (nw_c nwe_371 (nw_c nwe_363 (nw_c nwe_360 (nw_c nwe_361 (nw_c nwe_362 (nw_c nwe_359 (nw_c nwe_372 (nw_c nwe_373 (nw_c nwe_374 (nw_c nwe_364 (nw_c nwe_349 (nw_c nwe_365 nw_n)))))))))))))))) (nwl_X60)) (nwl_X50))
def nwp_X6_feed : List Nat := 403 :: ((([331, 404, 361, 362, 363, 359, 372, 373, 374, 364, 349, 365, 405, 116, 117, 87, 108, 76, 82] ++ nwp_X60) ++ nwp_X10))
theorem nwl_X6_feed : nwp_X6_feed.map nw = wsX6_feed := nw_c nwe_403 (nw_a (nw_a (nw_c nwe_331 (nw_c nwe_404 (nw_c nwe_361 (nw_c nwe_362 (nw_c nwe_363 (nw_c nwe_359 (nw_c nwe_372 (nw_c nwe_373 (nw_c nwe_374 (nw_c nwe_364 (nw_c nwe_349 (nw_c nwe_365 (nw_c nwe_405 (nw_c nwe_116 (nw_c nwe_117 (nw_c nwe_87 (nw_c nwe_108 (nw_c nwe_76 (nw_c nwe_82 nw_n))))))))))))))))))) (nwl_X60)) (nwl_X10))
def nwp_X6_text_r1 : List Nat := [343, 331, 404, 329, 406, 407, 361, 362, 363, 359, 372, 373, 374, 364, 349, 365, 408, 409, 410, 114, 160, 89, 90, 91]
theorem nwl_X6_text_r1 : nwp_X6_text_r1.map nw = wsX6_text_r1 := nw_c nwe_343 (nw_c nwe_331 (nw_c nwe_404 (nw_c nwe_329 (nw_c nwe_406 (nw_c nwe_407 (nw_c nwe_361 (nw_c nwe_362 (nw_c nwe_363 (nw_c nwe_359 (nw_c nwe_372 (nw_c nwe_373 (nw_c nwe_374 (nw_c nwe_364 (nw_c nwe_349 (nw_c nwe_365 (nw_c nwe_408 (nw_c nwe_409 (nw_c nwe_410 (nw_c nwe_114 (nw_c nwe_160 (nw_c nwe_89 (nw_c nwe_90 (nw_c nwe_91 nw_n)))))))))))))))))))))))
def nwp_X6_text_r2 : List Nat := [88, 104, 157, 158, 159, 87, 94, 76, 82, 95, 96, 79, 97, 98, 99, 100, 101, 139, 140, 141, 134, 135, 136, 137]
theorem nwl_X6_text_r2 : nwp_X6_text_r2.map nw = wsX6_text_r2 := nw_c nwe_88 (nw_c nwe_104 (nw_c nwe_157 (nw_c nwe_158 (nw_c nwe_159 (nw_c nwe_87 (nw_c nwe_94 (nw_c nwe_76 (nw_c nwe_82 (nw_c nwe_95 (nw_c nwe_96 (nw_c nwe_79 (nw_c nwe_97 (nw_c nwe_98 (nw_c nwe_99 (nw_c nwe_100 (nw_c nwe_101 (nw_c nwe_139 (nw_c nwe_140 (nw_c nwe_141 (nw_c nwe_134 (nw_c nwe_135 (nw_c nwe_136 (nw_c nwe_137 nw_n)))))))))))))))))))))))
def nwp_X6_text_r3 : List Nat := [120, 121, 122, 103, 105, 106, 107, 102, 115, 116, 117, 108, 156, 123, 124, 125, 126, 127, 128, 129, 130, 131, 132, 133]
theorem nwl_X6_text_r3 : nwp_X6_text_r3.map nw = wsX6_text_r3 := nw_c nwe_120 (nw_c nwe_121 (nw_c nwe_122 (nw_c nwe_103 (nw_c nwe_105 (nw_c nwe_106 (nw_c nwe_107 (nw_c nwe_102 (nw_c nwe_115 (nw_c nwe_116 (nw_c nwe_117 (nw_c nwe_108 (nw_c nwe_156 (nw_c nwe_123 (nw_c nwe_124 (nw_c nwe_125 (nw_c nwe_126 (nw_c nwe_127 (nw_c nwe_128 (nw_c nwe_129 (nw_c nwe_130 (nw_c nwe_131 (nw_c nwe_132 (nw_c nwe_133 nw_n)))))))))))))))))))))))
def nwp_X6_text_r4 : List Nat := [138, 142, 143, 144, 145, 146, 111, 112, 113, 109, 147, 148, 149, 110, 150, 151, 152, 118, 119, 153, 154, 155, 411, 412]
theorem nwl_X6_text_r4 : nwp_X6_text_r4.map nw = wsX6_text_r4 := nw_c nwe_138 (nw_c nwe_142 (nw_c nwe_143 (nw_c nwe_144 (nw_c nwe_145 (nw_c nwe_146 (nw_c nwe_111 (nw_c nwe_112 (nw_c nwe_113 (nw_c nwe_109 (nw_c nwe_147 (nw_c nwe_148 (nw_c nwe_149 (nw_c nwe_110 (nw_c nwe_150 (nw_c nwe_151 (nw_c nwe_152 (nw_c nwe_118 (nw_c nwe_119 (nw_c nwe_153 (nw_c nwe_154 (nw_c nwe_155 (nw_c nwe_411 (nw_c nwe_412 nw_n)))))))))))))))))))))))
def nwp_X6_text_r5 : List Nat := [413, 259, 261, 240, 241, 414]
theorem nwl_X6_text_r5 : nwp_X6_text_r5.map nw = wsX6_text_r5 := nw_c nwe_413 (nw_c nwe_259 (nw_c nwe_261 (nw_c nwe_240 (nw_c nwe_241 (nw_c nwe_414 nw_n)))))
def nwp_X6_text : List Nat := 415 :: (((((((nwp_X6_text_r1 ++ (nwp_X6_text_r2 ++ (nwp_X6_text_r3 ++ (nwp_X6_text_r4 ++ nwp_X6_text_r5)))) ++ nwp_X60) ++ nwp_X10) ++ nwp_X30) ++ nwp_X00) ++ nwp_X50))
theorem nwl_X6_text : nwp_X6_text.map nw = wsX6_text := nw_c nwe_415 (nw_a (nw_a (nw_a (nw_a (nw_a (nw_a (nwl_X6_text_r1) (nw_a (nwl_X6_text_r2) (nw_a (nwl_X6_text_r3) (nw_a (nwl_X6_text_r4) (nwl_X6_text_r5))))) (nwl_X60)) (nwl_X10)) (nwl_X30)) (nwl_X00)) (nwl_X50))
def nwp_X6_untell_r1 : List Nat := [329, 406, 404, 361, 362, 363, 359, 372, 373, 374, 364, 349, 365, 411, 412, 413, 259, 261, 240, 241, 416, 275, 276, 192]
theorem nwl_X6_untell_r1 : nwp_X6_untell_r1.map nw = wsX6_untell_r1 := nw_c nwe_329 (nw_c nwe_406 (nw_c nwe_404 (nw_c nwe_361 (nw_c nwe_362 (nw_c nwe_363 (nw_c nwe_359 (nw_c nwe_372 (nw_c nwe_373 (nw_c nwe_374 (nw_c nwe_364 (nw_c nwe_349 (nw_c nwe_365 (nw_c nwe_411 (nw_c nwe_412 (nw_c nwe_413 (nw_c nwe_259 (nw_c nwe_261 (nw_c nwe_240 (nw_c nwe_241 (nw_c nwe_416 (nw_c nwe_275 (nw_c nwe_276 (nw_c nwe_192 nw_n)))))))))))))))))))))))
def nwp_X6_untell_r2 : List Nat := [184, 181, 185]
theorem nwl_X6_untell_r2 : nwp_X6_untell_r2.map nw = wsX6_untell_r2 := nw_c nwe_184 (nw_c nwe_181 (nw_c nwe_185 nw_n))
def nwp_X6_untell : List Nat := 417 :: ((((((nwp_X6_untell_r1 ++ nwp_X6_untell_r2) ++ nwp_X60) ++ nwp_X30) ++ nwp_X10) ++ nwp_X50))
theorem nwl_X6_untell : nwp_X6_untell.map nw = wsX6_untell := nw_c nwe_417 (nw_a (nw_a (nw_a (nw_a (nw_a (nwl_X6_untell_r1) (nwl_X6_untell_r2)) (nwl_X60)) (nwl_X30)) (nwl_X10)) (nwl_X50))
def nwp_X6_days_r1 : List Nat := [329, 418, 361, 362, 363, 359, 372, 373, 374, 364, 349, 365, 419, 420, 421, 259, 325, 322, 323, 324, 321, 244, 245, 306]
theorem nwl_X6_days_r1 : nwp_X6_days_r1.map nw = wsX6_days_r1 := nw_c nwe_329 (nw_c nwe_418 (nw_c nwe_361 (nw_c nwe_362 (nw_c nwe_363 (nw_c nwe_359 (nw_c nwe_372 (nw_c nwe_373 (nw_c nwe_374 (nw_c nwe_364 (nw_c nwe_349 (nw_c nwe_365 (nw_c nwe_419 (nw_c nwe_420 (nw_c nwe_421 (nw_c nwe_259 (nw_c nwe_325 (nw_c nwe_322 (nw_c nwe_323 (nw_c nwe_324 (nw_c nwe_321 (nw_c nwe_244 (nw_c nwe_245 (nw_c nwe_306 nw_n)))))))))))))))))))))))
def nwp_X6_days_r2 : List Nat := [307, 308, 269, 236, 309, 310, 311, 284, 231, 242, 263, 96, 79, 97, 247, 281, 282, 283, 280, 241, 274, 275, 276, 192]
theorem nwl_X6_days_r2 : nwp_X6_days_r2.map nw = wsX6_days_r2 := nw_c nwe_307 (nw_c nwe_308 (nw_c nwe_269 (nw_c nwe_236 (nw_c nwe_309 (nw_c nwe_310 (nw_c nwe_311 (nw_c nwe_284 (nw_c nwe_231 (nw_c nwe_242 (nw_c nwe_263 (nw_c nwe_96 (nw_c nwe_79 (nw_c nwe_97 (nw_c nwe_247 (nw_c nwe_281 (nw_c nwe_282 (nw_c nwe_283 (nw_c nwe_280 (nw_c nwe_241 (nw_c nwe_274 (nw_c nwe_275 (nw_c nwe_276 (nw_c nwe_192 nw_n)))))))))))))))))))))))
def nwp_X6_days_r3 : List Nat := [184, 181, 185, 277, 278, 279, 188, 182, 189, 106, 107, 87, 102, 76, 82, 190, 191, 186, 193, 194, 187, 312, 313, 314]
theorem nwl_X6_days_r3 : nwp_X6_days_r3.map nw = wsX6_days_r3 := nw_c nwe_184 (nw_c nwe_181 (nw_c nwe_185 (nw_c nwe_277 (nw_c nwe_278 (nw_c nwe_279 (nw_c nwe_188 (nw_c nwe_182 (nw_c nwe_189 (nw_c nwe_106 (nw_c nwe_107 (nw_c nwe_87 (nw_c nwe_102 (nw_c nwe_76 (nw_c nwe_82 (nw_c nwe_190 (nw_c nwe_191 (nw_c nwe_186 (nw_c nwe_193 (nw_c nwe_194 (nw_c nwe_187 (nw_c nwe_312 (nw_c nwe_313 (nw_c nwe_314 nw_n)))))))))))))))))))))))
def nwp_X6_days_r4 : List Nat := [295, 248, 243, 237, 250, 172, 173, 167, 290, 291, 285, 292, 293, 294, 286, 287, 288, 289, 315, 316, 317, 298, 232, 233]
theorem nwl_X6_days_r4 : nwp_X6_days_r4.map nw = wsX6_days_r4 := nw_c nwe_295 (nw_c nwe_248 (nw_c nwe_243 (nw_c nwe_237 (nw_c nwe_250 (nw_c nwe_172 (nw_c nwe_173 (nw_c nwe_167 (nw_c nwe_290 (nw_c nwe_291 (nw_c nwe_285 (nw_c nwe_292 (nw_c nwe_293 (nw_c nwe_294 (nw_c nwe_286 (nw_c nwe_287 (nw_c nwe_288 (nw_c nwe_289 (nw_c nwe_315 (nw_c nwe_316 (nw_c nwe_317 (nw_c nwe_298 (nw_c nwe_232 (nw_c nwe_233 nw_n)))))))))))))))))))))))
def nwp_X6_days_r5 : List Nat := [235, 297, 299, 300, 301, 296, 234, 318, 319, 320, 305, 240, 303, 304, 302, 264, 78, 80]
theorem nwl_X6_days_r5 : nwp_X6_days_r5.map nw = wsX6_days_r5 := nw_c nwe_235 (nw_c nwe_297 (nw_c nwe_299 (nw_c nwe_300 (nw_c nwe_301 (nw_c nwe_296 (nw_c nwe_234 (nw_c nwe_318 (nw_c nwe_319 (nw_c nwe_320 (nw_c nwe_305 (nw_c nwe_240 (nw_c nwe_303 (nw_c nwe_304 (nw_c nwe_302 (nw_c nwe_264 (nw_c nwe_78 (nw_c nwe_80 nw_n)))))))))))))))))
def nwp_X6_days : List Nat := 422 :: ((((((nwp_X6_days_r1 ++ (nwp_X6_days_r2 ++ (nwp_X6_days_r3 ++ (nwp_X6_days_r4 ++ nwp_X6_days_r5)))) ++ nwp_X60) ++ nwp_X50) ++ nwp_X30) ++ nwp_X10))
theorem nwl_X6_days : nwp_X6_days.map nw = wsX6_days := nw_c nwe_422 (nw_a (nw_a (nw_a (nw_a (nw_a (nwl_X6_days_r1) (nw_a (nwl_X6_days_r2) (nw_a (nwl_X6_days_r3) (nw_a (nwl_X6_days_r4) (nwl_X6_days_r5))))) (nwl_X60)) (nwl_X50)) (nwl_X30)) (nwl_X10))
def nwp_X6_draws_r1 : List Nat := [329, 418, 361, 362, 363, 359, 372, 373, 374, 364, 349, 365, 423, 424, 425, 259, 272, 246, 273, 242, 426, 323, 324, 321]
theorem nwl_X6_draws_r1 : nwp_X6_draws_r1.map nw = wsX6_draws_r1 := nw_c nwe_329 (nw_c nwe_418 (nw_c nwe_361 (nw_c nwe_362 (nw_c nwe_363 (nw_c nwe_359 (nw_c nwe_372 (nw_c nwe_373 (nw_c nwe_374 (nw_c nwe_364 (nw_c nwe_349 (nw_c nwe_365 (nw_c nwe_423 (nw_c nwe_424 (nw_c nwe_425 (nw_c nwe_259 (nw_c nwe_272 (nw_c nwe_246 (nw_c nwe_273 (nw_c nwe_242 (nw_c nwe_426 (nw_c nwe_323 (nw_c nwe_324 (nw_c nwe_321 nw_n)))))))))))))))))))))))
def nwp_X6_draws_r2 : List Nat := [244, 245, 306, 307, 308, 269, 236, 309, 310, 311, 284, 231, 263, 96, 79, 97, 247, 281, 282, 283, 280, 241, 274, 275]
theorem nwl_X6_draws_r2 : nwp_X6_draws_r2.map nw = wsX6_draws_r2 := nw_c nwe_244 (nw_c nwe_245 (nw_c nwe_306 (nw_c nwe_307 (nw_c nwe_308 (nw_c nwe_269 (nw_c nwe_236 (nw_c nwe_309 (nw_c nwe_310 (nw_c nwe_311 (nw_c nwe_284 (nw_c nwe_231 (nw_c nwe_263 (nw_c nwe_96 (nw_c nwe_79 (nw_c nwe_97 (nw_c nwe_247 (nw_c nwe_281 (nw_c nwe_282 (nw_c nwe_283 (nw_c nwe_280 (nw_c nwe_241 (nw_c nwe_274 (nw_c nwe_275 nw_n)))))))))))))))))))))))
def nwp_X6_draws_r3 : List Nat := [276, 192, 184, 181, 185, 277, 278, 279, 188, 182, 189, 106, 107, 87, 102, 76, 82, 190, 191, 186, 193, 194, 187, 312]
theorem nwl_X6_draws_r3 : nwp_X6_draws_r3.map nw = wsX6_draws_r3 := nw_c nwe_276 (nw_c nwe_192 (nw_c nwe_184 (nw_c nwe_181 (nw_c nwe_185 (nw_c nwe_277 (nw_c nwe_278 (nw_c nwe_279 (nw_c nwe_188 (nw_c nwe_182 (nw_c nwe_189 (nw_c nwe_106 (nw_c nwe_107 (nw_c nwe_87 (nw_c nwe_102 (nw_c nwe_76 (nw_c nwe_82 (nw_c nwe_190 (nw_c nwe_191 (nw_c nwe_186 (nw_c nwe_193 (nw_c nwe_194 (nw_c nwe_187 (nw_c nwe_312 nw_n)))))))))))))))))))))))
def nwp_X6_draws_r4 : List Nat := [313, 314, 295, 248, 243, 237, 250, 172, 173, 167, 290, 291, 285, 292, 293, 294, 286, 287, 288, 289, 315, 316, 317, 298]
theorem nwl_X6_draws_r4 : nwp_X6_draws_r4.map nw = wsX6_draws_r4 := nw_c nwe_313 (nw_c nwe_314 (nw_c nwe_295 (nw_c nwe_248 (nw_c nwe_243 (nw_c nwe_237 (nw_c nwe_250 (nw_c nwe_172 (nw_c nwe_173 (nw_c nwe_167 (nw_c nwe_290 (nw_c nwe_291 (nw_c nwe_285 (nw_c nwe_292 (nw_c nwe_293 (nw_c nwe_294 (nw_c nwe_286 (nw_c nwe_287 (nw_c nwe_288 (nw_c nwe_289 (nw_c nwe_315 (nw_c nwe_316 (nw_c nwe_317 (nw_c nwe_298 nw_n)))))))))))))))))))))))
def nwp_X6_draws_r5 : List Nat := [232, 233, 235, 297, 299, 300, 301, 296, 234, 318, 319, 320, 305, 240, 303, 304, 302, 264, 78, 80]
theorem nwl_X6_draws_r5 : nwp_X6_draws_r5.map nw = wsX6_draws_r5 := nw_c nwe_232 (nw_c nwe_233 (nw_c nwe_235 (nw_c nwe_297 (nw_c nwe_299 (nw_c nwe_300 (nw_c nwe_301 (nw_c nwe_296 (nw_c nwe_234 (nw_c nwe_318 (nw_c nwe_319 (nw_c nwe_320 (nw_c nwe_305 (nw_c nwe_240 (nw_c nwe_303 (nw_c nwe_304 (nw_c nwe_302 (nw_c nwe_264 (nw_c nwe_78 (nw_c nwe_80 nw_n)))))))))))))))))))
def nwp_X6_draws : List Nat := 427 :: ((((((nwp_X6_draws_r1 ++ (nwp_X6_draws_r2 ++ (nwp_X6_draws_r3 ++ (nwp_X6_draws_r4 ++ nwp_X6_draws_r5)))) ++ nwp_X60) ++ nwp_X50) ++ nwp_X30) ++ nwp_X10))
theorem nwl_X6_draws : nwp_X6_draws.map nw = wsX6_draws := nw_c nwe_427 (nw_a (nw_a (nw_a (nw_a (nw_a (nwl_X6_draws_r1) (nw_a (nwl_X6_draws_r2) (nw_a (nwl_X6_draws_r3) (nw_a (nwl_X6_draws_r4) (nwl_X6_draws_r5))))) (nwl_X60)) (nwl_X50)) (nwl_X30)) (nwl_X10))
def nwp_X6_seed : List Nat := 428 :: ((([329, 429] ++ nwp_X60) ++ nwp_X50))
theorem nwl_X6_seed : nwp_X6_seed.map nw = wsX6_seed := nw_c nwe_428 (nw_a (nw_a (nw_c nwe_329 (nw_c nwe_429 nw_n)) (nwl_X60)) (nwl_X50))
def nwp_X6_then_r1 : List Nat := [337, 329, 361, 362, 363, 359, 375, 376, 366, 372, 373, 374, 364, 349, 365, 430, 431, 432, 259, 260, 230, 253, 99, 100]
theorem nwl_X6_then_r1 : nwp_X6_then_r1.map nw = wsX6_then_r1 := nw_c nwe_337 (nw_c nwe_329 (nw_c nwe_361 (nw_c nwe_362 (nw_c nwe_363 (nw_c nwe_359 (nw_c nwe_375 (nw_c nwe_376 (nw_c nwe_366 (nw_c nwe_372 (nw_c nwe_373 (nw_c nwe_374 (nw_c nwe_364 (nw_c nwe_349 (nw_c nwe_365 (nw_c nwe_430 (nw_c nwe_431 (nw_c nwe_432 (nw_c nwe_259 (nw_c nwe_260 (nw_c nwe_230 (nw_c nwe_253 (nw_c nwe_99 (nw_c nwe_100 nw_n)))))))))))))))))))))))
def nwp_X6_then_r2 : List Nat := [101, 232, 233, 234, 235, 236, 237, 240, 254, 241, 242, 244, 245, 246, 255, 158, 159, 87, 94, 76, 82, 95, 96, 79]
theorem nwl_X6_then_r2 : nwp_X6_then_r2.map nw = wsX6_then_r2 := nw_c nwe_101 (nw_c nwe_232 (nw_c nwe_233 (nw_c nwe_234 (nw_c nwe_235 (nw_c nwe_236 (nw_c nwe_237 (nw_c nwe_240 (nw_c nwe_254 (nw_c nwe_241 (nw_c nwe_242 (nw_c nwe_244 (nw_c nwe_245 (nw_c nwe_246 (nw_c nwe_255 (nw_c nwe_158 (nw_c nwe_159 (nw_c nwe_87 (nw_c nwe_94 (nw_c nwe_76 (nw_c nwe_82 (nw_c nwe_95 (nw_c nwe_96 (nw_c nwe_79 nw_n)))))))))))))))))))))))
def nwp_X6_then_r3 : List Nat := [97, 98, 256, 257, 258, 252, 231, 247, 243, 419, 420, 421, 325, 322, 323, 324, 321, 306, 307, 308, 269, 309, 310, 311]
theorem nwl_X6_then_r3 : nwp_X6_then_r3.map nw = wsX6_then_r3 := nw_c nwe_97 (nw_c nwe_98 (nw_c nwe_256 (nw_c nwe_257 (nw_c nwe_258 (nw_c nwe_252 (nw_c nwe_231 (nw_c nwe_247 (nw_c nwe_243 (nw_c nwe_419 (nw_c nwe_420 (nw_c nwe_421 (nw_c nwe_325 (nw_c nwe_322 (nw_c nwe_323 (nw_c nwe_324 (nw_c nwe_321 (nw_c nwe_306 (nw_c nwe_307 (nw_c nwe_308 (nw_c nwe_269 (nw_c nwe_309 (nw_c nwe_310 (nw_c nwe_311 nw_n)))))))))))))))))))))))
def nwp_X6_then_r4 : List Nat := [284, 263, 281, 282, 283, 280, 274, 275, 276, 192, 184, 181, 185, 277, 278, 279, 188, 182, 189, 106, 107, 102, 190, 191]
theorem nwl_X6_then_r4 : nwp_X6_then_r4.map nw = wsX6_then_r4 := nw_c nwe_284 (nw_c nwe_263 (nw_c nwe_281 (nw_c nwe_282 (nw_c nwe_283 (nw_c nwe_280 (nw_c nwe_274 (nw_c nwe_275 (nw_c nwe_276 (nw_c nwe_192 (nw_c nwe_184 (nw_c nwe_181 (nw_c nwe_185 (nw_c nwe_277 (nw_c nwe_278 (nw_c nwe_279 (nw_c nwe_188 (nw_c nwe_182 (nw_c nwe_189 (nw_c nwe_106 (nw_c nwe_107 (nw_c nwe_102 (nw_c nwe_190 (nw_c nwe_191 nw_n)))))))))))))))))))))))
def nwp_X6_then_r5 : List Nat := [186, 193, 194, 187, 312, 313, 314, 295, 248, 250, 172, 173, 167, 290, 291, 285, 292, 293, 294, 286, 287, 288, 289, 315]
theorem nwl_X6_then_r5 : nwp_X6_then_r5.map nw = wsX6_then_r5 := nw_c nwe_186 (nw_c nwe_193 (nw_c nwe_194 (nw_c nwe_187 (nw_c nwe_312 (nw_c nwe_313 (nw_c nwe_314 (nw_c nwe_295 (nw_c nwe_248 (nw_c nwe_250 (nw_c nwe_172 (nw_c nwe_173 (nw_c nwe_167 (nw_c nwe_290 (nw_c nwe_291 (nw_c nwe_285 (nw_c nwe_292 (nw_c nwe_293 (nw_c nwe_294 (nw_c nwe_286 (nw_c nwe_287 (nw_c nwe_288 (nw_c nwe_289 (nw_c nwe_315 nw_n)))))))))))))))))))))))
def nwp_X6_then_r6 : List Nat := [316, 317, 298, 297, 299, 300, 301, 296, 318, 319, 320, 305, 303, 304, 302, 264, 78, 80, 384, 385, 386, 265, 266, 267]
theorem nwl_X6_then_r6 : nwp_X6_then_r6.map nw = wsX6_then_r6 := nw_c nwe_316 (nw_c nwe_317 (nw_c nwe_298 (nw_c nwe_297 (nw_c nwe_299 (nw_c nwe_300 (nw_c nwe_301 (nw_c nwe_296 (nw_c nwe_318 (nw_c nwe_319 (nw_c nwe_320 (nw_c nwe_305 (nw_c nwe_303 (nw_c nwe_304 (nw_c nwe_302 (nw_c nwe_264 (nw_c nwe_78 (nw_c nwe_80 (nw_c nwe_384 (nw_c nwe_385 (nw_c nwe_386 (nw_c nwe_265 (nw_c nwe_266 (nw_c nwe_267 nw_n)))))))))))))))))))))))
def nwp_X6_then_r7 : List Nat := [262]
theorem nwl_X6_then_r7 : nwp_X6_then_r7.map nw = wsX6_then_r7 := nw_c nwe_262 nw_n
def nwp_X6_then : List Nat := 433 :: ((((((nwp_X6_then_r1 ++ (nwp_X6_then_r2 ++ (nwp_X6_then_r3 ++ (nwp_X6_then_r4 ++ (nwp_X6_then_r5 ++ (nwp_X6_then_r6 ++ nwp_X6_then_r7)))))) ++ nwp_X60) ++ nwp_X50) ++ nwp_X30) ++ nwp_X10))
theorem nwl_X6_then : nwp_X6_then.map nw = wsX6_then := nw_c nwe_433 (nw_a (nw_a (nw_a (nw_a (nw_a (nwl_X6_then_r1) (nw_a (nwl_X6_then_r2) (nw_a (nwl_X6_then_r3) (nw_a (nwl_X6_then_r4) (nw_a (nwl_X6_then_r5) (nw_a (nwl_X6_then_r6) (nwl_X6_then_r7))))))) (nwl_X60)) (nwl_X50)) (nwl_X30)) (nwl_X10))
def nwp_X6_sum : List Nat := 434 :: ([])
theorem nwl_X6_sum : nwp_X6_sum.map nw = wsX6_sum := nw_c nwe_434 (nw_n)
def nwp_X6_ahead_r1 : List Nat := [337, 329, 401, 402, 369, 361, 362, 363, 359, 372, 373, 374, 364, 349, 365, 430, 431, 432, 259, 260, 230, 253, 99, 100]
theorem nwl_X6_ahead_r1 : nwp_X6_ahead_r1.map nw = wsX6_ahead_r1 := nw_c nwe_337 (nw_c nwe_329 (nw_c nwe_401 (nw_c nwe_402 (nw_c nwe_369 (nw_c nwe_361 (nw_c nwe_362 (nw_c nwe_363 (nw_c nwe_359 (nw_c nwe_372 (nw_c nwe_373 (nw_c nwe_374 (nw_c nwe_364 (nw_c nwe_349 (nw_c nwe_365 (nw_c nwe_430 (nw_c nwe_431 (nw_c nwe_432 (nw_c nwe_259 (nw_c nwe_260 (nw_c nwe_230 (nw_c nwe_253 (nw_c nwe_99 (nw_c nwe_100 nw_n)))))))))))))))))))))))
def nwp_X6_ahead_r2 : List Nat := [101, 232, 233, 234, 235, 236, 237, 240, 254, 241, 242, 244, 245, 246, 255, 158, 159, 87, 94, 76, 82, 95, 96, 79]
theorem nwl_X6_ahead_r2 : nwp_X6_ahead_r2.map nw = wsX6_ahead_r2 := nw_c nwe_101 (nw_c nwe_232 (nw_c nwe_233 (nw_c nwe_234 (nw_c nwe_235 (nw_c nwe_236 (nw_c nwe_237 (nw_c nwe_240 (nw_c nwe_254 (nw_c nwe_241 (nw_c nwe_242 (nw_c nwe_244 (nw_c nwe_245 (nw_c nwe_246 (nw_c nwe_255 (nw_c nwe_158 (nw_c nwe_159 (nw_c nwe_87 (nw_c nwe_94 (nw_c nwe_76 (nw_c nwe_82 (nw_c nwe_95 (nw_c nwe_96 (nw_c nwe_79 nw_n)))))))))))))))))))))))
def nwp_X6_ahead_r3 : List Nat := [97, 98, 256, 257, 258, 252, 231, 247, 243, 419, 420, 421, 325, 322, 323, 324, 321, 306, 307, 308, 269, 309, 310, 311]
theorem nwl_X6_ahead_r3 : nwp_X6_ahead_r3.map nw = wsX6_ahead_r3 := nw_c nwe_97 (nw_c nwe_98 (nw_c nwe_256 (nw_c nwe_257 (nw_c nwe_258 (nw_c nwe_252 (nw_c nwe_231 (nw_c nwe_247 (nw_c nwe_243 (nw_c nwe_419 (nw_c nwe_420 (nw_c nwe_421 (nw_c nwe_325 (nw_c nwe_322 (nw_c nwe_323 (nw_c nwe_324 (nw_c nwe_321 (nw_c nwe_306 (nw_c nwe_307 (nw_c nwe_308 (nw_c nwe_269 (nw_c nwe_309 (nw_c nwe_310 (nw_c nwe_311 nw_n)))))))))))))))))))))))
def nwp_X6_ahead_r4 : List Nat := [284, 263, 281, 282, 283, 280, 274, 275, 276, 192, 184, 181, 185, 277, 278, 279, 188, 182, 189, 106, 107, 102, 190, 191]
theorem nwl_X6_ahead_r4 : nwp_X6_ahead_r4.map nw = wsX6_ahead_r4 := nw_c nwe_284 (nw_c nwe_263 (nw_c nwe_281 (nw_c nwe_282 (nw_c nwe_283 (nw_c nwe_280 (nw_c nwe_274 (nw_c nwe_275 (nw_c nwe_276 (nw_c nwe_192 (nw_c nwe_184 (nw_c nwe_181 (nw_c nwe_185 (nw_c nwe_277 (nw_c nwe_278 (nw_c nwe_279 (nw_c nwe_188 (nw_c nwe_182 (nw_c nwe_189 (nw_c nwe_106 (nw_c nwe_107 (nw_c nwe_102 (nw_c nwe_190 (nw_c nwe_191 nw_n)))))))))))))))))))))))
def nwp_X6_ahead_r5 : List Nat := [186, 193, 194, 187, 312, 313, 314, 295, 248, 250, 172, 173, 167, 290, 291, 285, 292, 293, 294, 286, 287, 288, 289, 315]
theorem nwl_X6_ahead_r5 : nwp_X6_ahead_r5.map nw = wsX6_ahead_r5 := nw_c nwe_186 (nw_c nwe_193 (nw_c nwe_194 (nw_c nwe_187 (nw_c nwe_312 (nw_c nwe_313 (nw_c nwe_314 (nw_c nwe_295 (nw_c nwe_248 (nw_c nwe_250 (nw_c nwe_172 (nw_c nwe_173 (nw_c nwe_167 (nw_c nwe_290 (nw_c nwe_291 (nw_c nwe_285 (nw_c nwe_292 (nw_c nwe_293 (nw_c nwe_294 (nw_c nwe_286 (nw_c nwe_287 (nw_c nwe_288 (nw_c nwe_289 (nw_c nwe_315 nw_n)))))))))))))))))))))))
def nwp_X6_ahead_r6 : List Nat := [316, 317, 298, 297, 299, 300, 301, 296, 318, 319, 320, 305, 303, 304, 302, 264, 78, 80, 435, 436, 434, 437, 438, 439]
theorem nwl_X6_ahead_r6 : nwp_X6_ahead_r6.map nw = wsX6_ahead_r6 := nw_c nwe_316 (nw_c nwe_317 (nw_c nwe_298 (nw_c nwe_297 (nw_c nwe_299 (nw_c nwe_300 (nw_c nwe_301 (nw_c nwe_296 (nw_c nwe_318 (nw_c nwe_319 (nw_c nwe_320 (nw_c nwe_305 (nw_c nwe_303 (nw_c nwe_304 (nw_c nwe_302 (nw_c nwe_264 (nw_c nwe_78 (nw_c nwe_80 (nw_c nwe_435 (nw_c nwe_436 (nw_c nwe_434 (nw_c nwe_437 (nw_c nwe_438 (nw_c nwe_439 nw_n)))))))))))))))))))))))
def nwp_X6_ahead_r7 : List Nat := [270]
theorem nwl_X6_ahead_r7 : nwp_X6_ahead_r7.map nw = wsX6_ahead_r7 := nw_c nwe_270 nw_n
def nwp_X6_ahead : List Nat := 440 :: ((((((nwp_X6_ahead_r1 ++ (nwp_X6_ahead_r2 ++ (nwp_X6_ahead_r3 ++ (nwp_X6_ahead_r4 ++ (nwp_X6_ahead_r5 ++ (nwp_X6_ahead_r6 ++ nwp_X6_ahead_r7)))))) ++ nwp_X60) ++ nwp_X50) ++ nwp_X30) ++ nwp_X10))
theorem nwl_X6_ahead : nwp_X6_ahead.map nw = wsX6_ahead := nw_c nwe_440 (nw_a (nw_a (nw_a (nw_a (nw_a (nwl_X6_ahead_r1) (nw_a (nwl_X6_ahead_r2) (nw_a (nwl_X6_ahead_r3) (nw_a (nwl_X6_ahead_r4) (nw_a (nwl_X6_ahead_r5) (nw_a (nwl_X6_ahead_r6) (nwl_X6_ahead_r7))))))) (nwl_X60)) (nwl_X50)) (nwl_X30)) (nwl_X10))
def nwp_X6_seekLeash_r1 : List Nat := [337, 329, 338, 339, 399, 441, 442, 99, 100, 101, 430, 431, 432, 259, 260, 230, 253, 232, 233, 234, 235, 236, 237, 240]
theorem nwl_X6_seekLeash_r1 : nwp_X6_seekLeash_r1.map nw = wsX6_seekLeash_r1 := nw_c nwe_337 (nw_c nwe_329 (nw_c nwe_338 (nw_c nwe_339 (nw_c nwe_399 (nw_c nwe_441 (nw_c nwe_442 (nw_c nwe_99 (nw_c nwe_100 (nw_c nwe_101 (nw_c nwe_430 (nw_c nwe_431 (nw_c nwe_432 (nw_c nwe_259 (nw_c nwe_260 (nw_c nwe_230 (nw_c nwe_253 (nw_c nwe_232 (nw_c nwe_233 (nw_c nwe_234 (nw_c nwe_235 (nw_c nwe_236 (nw_c nwe_237 (nw_c nwe_240 nw_n)))))))))))))))))))))))
def nwp_X6_seekLeash_r2 : List Nat := [254, 241, 242, 244, 245, 246, 255, 158, 159, 87, 94, 76, 82, 95, 96, 79, 97, 98, 256, 257, 258, 252, 231, 247]
theorem nwl_X6_seekLeash_r2 : nwp_X6_seekLeash_r2.map nw = wsX6_seekLeash_r2 := nw_c nwe_254 (nw_c nwe_241 (nw_c nwe_242 (nw_c nwe_244 (nw_c nwe_245 (nw_c nwe_246 (nw_c nwe_255 (nw_c nwe_158 (nw_c nwe_159 (nw_c nwe_87 (nw_c nwe_94 (nw_c nwe_76 (nw_c nwe_82 (nw_c nwe_95 (nw_c nwe_96 (nw_c nwe_79 (nw_c nwe_97 (nw_c nwe_98 (nw_c nwe_256 (nw_c nwe_257 (nw_c nwe_258 (nw_c nwe_252 (nw_c nwe_231 (nw_c nwe_247 nw_n)))))))))))))))))))))))
def nwp_X6_seekLeash_r3 : List Nat := [243, 443, 310, 311, 284, 263, 281, 282, 283, 280, 274, 275, 276, 192, 184, 181, 185, 277, 278, 279, 188, 182, 189, 106]
theorem nwl_X6_seekLeash_r3 : nwp_X6_seekLeash_r3.map nw = wsX6_seekLeash_r3 := nw_c nwe_243 (nw_c nwe_443 (nw_c nwe_310 (nw_c nwe_311 (nw_c nwe_284 (nw_c nwe_263 (nw_c nwe_281 (nw_c nwe_282 (nw_c nwe_283 (nw_c nwe_280 (nw_c nwe_274 (nw_c nwe_275 (nw_c nwe_276 (nw_c nwe_192 (nw_c nwe_184 (nw_c nwe_181 (nw_c nwe_185 (nw_c nwe_277 (nw_c nwe_278 (nw_c nwe_279 (nw_c nwe_188 (nw_c nwe_182 (nw_c nwe_189 (nw_c nwe_106 nw_n)))))))))))))))))))))))
def nwp_X6_seekLeash_r4 : List Nat := [107, 102, 190, 191, 186, 193, 194, 187, 444, 307, 308, 269, 445, 446, 313, 314, 295, 248, 250, 172, 173, 167, 290, 291]
theorem nwl_X6_seekLeash_r4 : nwp_X6_seekLeash_r4.map nw = wsX6_seekLeash_r4 := nw_c nwe_107 (nw_c nwe_102 (nw_c nwe_190 (nw_c nwe_191 (nw_c nwe_186 (nw_c nwe_193 (nw_c nwe_194 (nw_c nwe_187 (nw_c nwe_444 (nw_c nwe_307 (nw_c nwe_308 (nw_c nwe_269 (nw_c nwe_445 (nw_c nwe_446 (nw_c nwe_313 (nw_c nwe_314 (nw_c nwe_295 (nw_c nwe_248 (nw_c nwe_250 (nw_c nwe_172 (nw_c nwe_173 (nw_c nwe_167 (nw_c nwe_290 (nw_c nwe_291 nw_n)))))))))))))))))))))))
def nwp_X6_seekLeash_r5 : List Nat := [285, 292, 293, 294, 286, 287, 288, 289]
theorem nwl_X6_seekLeash_r5 : nwp_X6_seekLeash_r5.map nw = wsX6_seekLeash_r5 := nw_c nwe_285 (nw_c nwe_292 (nw_c nwe_293 (nw_c nwe_294 (nw_c nwe_286 (nw_c nwe_287 (nw_c nwe_288 (nw_c nwe_289 nw_n)))))))
def nwp_X6_seekLeash : List Nat := 447 :: ((((((nwp_X6_seekLeash_r1 ++ (nwp_X6_seekLeash_r2 ++ (nwp_X6_seekLeash_r3 ++ (nwp_X6_seekLeash_r4 ++ nwp_X6_seekLeash_r5)))) ++ nwp_X60) ++ nwp_X50) ++ nwp_X30) ++ nwp_X10))
theorem nwl_X6_seekLeash : nwp_X6_seekLeash.map nw = wsX6_seekLeash := nw_c nwe_447 (nw_a (nw_a (nw_a (nw_a (nw_a (nwl_X6_seekLeash_r1) (nw_a (nwl_X6_seekLeash_r2) (nw_a (nwl_X6_seekLeash_r3) (nw_a (nwl_X6_seekLeash_r4) (nwl_X6_seekLeash_r5))))) (nwl_X60)) (nwl_X50)) (nwl_X30)) (nwl_X10))
def nwp_X6_bestLeash_r1 : List Nat := [339, 361, 362, 363, 359, 372, 373, 374, 364, 349, 365, 448, 449, 450, 447, 337, 329, 338, 399, 441, 442, 99, 100, 101]
theorem nwl_X6_bestLeash_r1 : nwp_X6_bestLeash_r1.map nw = wsX6_bestLeash_r1 := nw_c nwe_339 (nw_c nwe_361 (nw_c nwe_362 (nw_c nwe_363 (nw_c nwe_359 (nw_c nwe_372 (nw_c nwe_373 (nw_c nwe_374 (nw_c nwe_364 (nw_c nwe_349 (nw_c nwe_365 (nw_c nwe_448 (nw_c nwe_449 (nw_c nwe_450 (nw_c nwe_447 (nw_c nwe_337 (nw_c nwe_329 (nw_c nwe_338 (nw_c nwe_399 (nw_c nwe_441 (nw_c nwe_442 (nw_c nwe_99 (nw_c nwe_100 (nw_c nwe_101 nw_n)))))))))))))))))))))))
def nwp_X6_bestLeash_r2 : List Nat := [430, 431, 432, 259, 260, 230, 253, 232, 233, 234, 235, 236, 237, 240, 254, 241, 242, 244, 245, 246, 255, 158, 159, 87]
theorem nwl_X6_bestLeash_r2 : nwp_X6_bestLeash_r2.map nw = wsX6_bestLeash_r2 := nw_c nwe_430 (nw_c nwe_431 (nw_c nwe_432 (nw_c nwe_259 (nw_c nwe_260 (nw_c nwe_230 (nw_c nwe_253 (nw_c nwe_232 (nw_c nwe_233 (nw_c nwe_234 (nw_c nwe_235 (nw_c nwe_236 (nw_c nwe_237 (nw_c nwe_240 (nw_c nwe_254 (nw_c nwe_241 (nw_c nwe_242 (nw_c nwe_244 (nw_c nwe_245 (nw_c nwe_246 (nw_c nwe_255 (nw_c nwe_158 (nw_c nwe_159 (nw_c nwe_87 nw_n)))))))))))))))))))))))
def nwp_X6_bestLeash_r3 : List Nat := [94, 76, 82, 95, 96, 79, 97, 98, 256, 257, 258, 252, 231, 247, 243, 443, 310, 311, 284, 263, 281, 282, 283, 280]
theorem nwl_X6_bestLeash_r3 : nwp_X6_bestLeash_r3.map nw = wsX6_bestLeash_r3 := nw_c nwe_94 (nw_c nwe_76 (nw_c nwe_82 (nw_c nwe_95 (nw_c nwe_96 (nw_c nwe_79 (nw_c nwe_97 (nw_c nwe_98 (nw_c nwe_256 (nw_c nwe_257 (nw_c nwe_258 (nw_c nwe_252 (nw_c nwe_231 (nw_c nwe_247 (nw_c nwe_243 (nw_c nwe_443 (nw_c nwe_310 (nw_c nwe_311 (nw_c nwe_284 (nw_c nwe_263 (nw_c nwe_281 (nw_c nwe_282 (nw_c nwe_283 (nw_c nwe_280 nw_n)))))))))))))))))))))))
def nwp_X6_bestLeash_r4 : List Nat := [274, 275, 276, 192, 184, 181, 185, 277, 278, 279, 188, 182, 189, 106, 107, 102, 190, 191, 186, 193, 194, 187, 444, 307]
theorem nwl_X6_bestLeash_r4 : nwp_X6_bestLeash_r4.map nw = wsX6_bestLeash_r4 := nw_c nwe_274 (nw_c nwe_275 (nw_c nwe_276 (nw_c nwe_192 (nw_c nwe_184 (nw_c nwe_181 (nw_c nwe_185 (nw_c nwe_277 (nw_c nwe_278 (nw_c nwe_279 (nw_c nwe_188 (nw_c nwe_182 (nw_c nwe_189 (nw_c nwe_106 (nw_c nwe_107 (nw_c nwe_102 (nw_c nwe_190 (nw_c nwe_191 (nw_c nwe_186 (nw_c nwe_193 (nw_c nwe_194 (nw_c nwe_187 (nw_c nwe_444 (nw_c nwe_307 nw_n)))))))))))))))))))))))
def nwp_X6_bestLeash_r5 : List Nat := [308, 269, 445, 446, 313, 314, 295, 248, 250, 172, 173, 167, 290, 291, 285, 292, 293, 294, 286, 287, 288, 289]
theorem nwl_X6_bestLeash_r5 : nwp_X6_bestLeash_r5.map nw = wsX6_bestLeash_r5 := nw_c nwe_308 (nw_c nwe_269 (nw_c nwe_445 (nw_c nwe_446 (nw_c nwe_313 (nw_c nwe_314 (nw_c nwe_295 (nw_c nwe_248 (nw_c nwe_250 (nw_c nwe_172 (nw_c nwe_173 (nw_c nwe_167 (nw_c nwe_290 (nw_c nwe_291 (nw_c nwe_285 (nw_c nwe_292 (nw_c nwe_293 (nw_c nwe_294 (nw_c nwe_286 (nw_c nwe_287 (nw_c nwe_288 (nw_c nwe_289 nw_n)))))))))))))))))))))
def nwp_X6_bestLeash : List Nat := 451 :: ((((((nwp_X6_bestLeash_r1 ++ (nwp_X6_bestLeash_r2 ++ (nwp_X6_bestLeash_r3 ++ (nwp_X6_bestLeash_r4 ++ nwp_X6_bestLeash_r5)))) ++ nwp_X60) ++ nwp_X50) ++ nwp_X30) ++ nwp_X10))
theorem nwl_X6_bestLeash : nwp_X6_bestLeash.map nw = wsX6_bestLeash := nw_c nwe_451 (nw_a (nw_a (nw_a (nw_a (nw_a (nwl_X6_bestLeash_r1) (nw_a (nwl_X6_bestLeash_r2) (nw_a (nwl_X6_bestLeash_r3) (nw_a (nwl_X6_bestLeash_r4) (nwl_X6_bestLeash_r5))))) (nwl_X60)) (nwl_X50)) (nwl_X30)) (nwl_X10))
def nwp_X6_bestFeed_r1 : List Nat := [329, 337, 452, 453, 78, 79, 80, 361, 362, 363, 359, 372, 373, 374, 364, 349, 365, 444, 307, 308, 259, 269, 245, 236]
theorem nwl_X6_bestFeed_r1 : nwp_X6_bestFeed_r1.map nw = wsX6_bestFeed_r1 := nw_c nwe_329 (nw_c nwe_337 (nw_c nwe_452 (nw_c nwe_453 (nw_c nwe_78 (nw_c nwe_79 (nw_c nwe_80 (nw_c nwe_361 (nw_c nwe_362 (nw_c nwe_363 (nw_c nwe_359 (nw_c nwe_372 (nw_c nwe_373 (nw_c nwe_374 (nw_c nwe_364 (nw_c nwe_349 (nw_c nwe_365 (nw_c nwe_444 (nw_c nwe_307 (nw_c nwe_308 (nw_c nwe_259 (nw_c nwe_269 (nw_c nwe_245 (nw_c nwe_236 nw_n)))))))))))))))))))))))
def nwp_X6_bestFeed_r2 : List Nat := [430, 431, 432, 260, 230, 253, 99, 100, 101, 232, 233, 234, 235, 237, 240, 254, 241, 242, 244, 246, 255, 158, 159, 87]
theorem nwl_X6_bestFeed_r2 : nwp_X6_bestFeed_r2.map nw = wsX6_bestFeed_r2 := nw_c nwe_430 (nw_c nwe_431 (nw_c nwe_432 (nw_c nwe_260 (nw_c nwe_230 (nw_c nwe_253 (nw_c nwe_99 (nw_c nwe_100 (nw_c nwe_101 (nw_c nwe_232 (nw_c nwe_233 (nw_c nwe_234 (nw_c nwe_235 (nw_c nwe_237 (nw_c nwe_240 (nw_c nwe_254 (nw_c nwe_241 (nw_c nwe_242 (nw_c nwe_244 (nw_c nwe_246 (nw_c nwe_255 (nw_c nwe_158 (nw_c nwe_159 (nw_c nwe_87 nw_n)))))))))))))))))))))))
def nwp_X6_bestFeed_r3 : List Nat := [94, 76, 82, 95, 96, 97, 98, 256, 257, 258, 252, 231, 247, 243, 426, 323, 324, 321, 306, 309, 310, 311, 284, 263]
theorem nwl_X6_bestFeed_r3 : nwp_X6_bestFeed_r3.map nw = wsX6_bestFeed_r3 := nw_c nwe_94 (nw_c nwe_76 (nw_c nwe_82 (nw_c nwe_95 (nw_c nwe_96 (nw_c nwe_97 (nw_c nwe_98 (nw_c nwe_256 (nw_c nwe_257 (nw_c nwe_258 (nw_c nwe_252 (nw_c nwe_231 (nw_c nwe_247 (nw_c nwe_243 (nw_c nwe_426 (nw_c nwe_323 (nw_c nwe_324 (nw_c nwe_321 (nw_c nwe_306 (nw_c nwe_309 (nw_c nwe_310 (nw_c nwe_311 (nw_c nwe_284 (nw_c nwe_263 nw_n)))))))))))))))))))))))
def nwp_X6_bestFeed_r4 : List Nat := [281, 282, 283, 280, 274, 275, 276, 192, 184, 181, 185, 277, 278, 279, 188, 182, 189, 106, 107, 102, 190, 191, 186, 193]
theorem nwl_X6_bestFeed_r4 : nwp_X6_bestFeed_r4.map nw = wsX6_bestFeed_r4 := nw_c nwe_281 (nw_c nwe_282 (nw_c nwe_283 (nw_c nwe_280 (nw_c nwe_274 (nw_c nwe_275 (nw_c nwe_276 (nw_c nwe_192 (nw_c nwe_184 (nw_c nwe_181 (nw_c nwe_185 (nw_c nwe_277 (nw_c nwe_278 (nw_c nwe_279 (nw_c nwe_188 (nw_c nwe_182 (nw_c nwe_189 (nw_c nwe_106 (nw_c nwe_107 (nw_c nwe_102 (nw_c nwe_190 (nw_c nwe_191 (nw_c nwe_186 (nw_c nwe_193 nw_n)))))))))))))))))))))))
def nwp_X6_bestFeed_r5 : List Nat := [194, 187, 312, 313, 314, 295, 248, 250, 172, 173, 167, 290, 291, 285, 292, 293, 294, 286, 287, 288, 289, 315, 316, 317]
theorem nwl_X6_bestFeed_r5 : nwp_X6_bestFeed_r5.map nw = wsX6_bestFeed_r5 := nw_c nwe_194 (nw_c nwe_187 (nw_c nwe_312 (nw_c nwe_313 (nw_c nwe_314 (nw_c nwe_295 (nw_c nwe_248 (nw_c nwe_250 (nw_c nwe_172 (nw_c nwe_173 (nw_c nwe_167 (nw_c nwe_290 (nw_c nwe_291 (nw_c nwe_285 (nw_c nwe_292 (nw_c nwe_293 (nw_c nwe_294 (nw_c nwe_286 (nw_c nwe_287 (nw_c nwe_288 (nw_c nwe_289 (nw_c nwe_315 (nw_c nwe_316 (nw_c nwe_317 nw_n)))))))))))))))))))))))
def nwp_X6_bestFeed_r6 : List Nat := [298, 297, 299, 300, 301, 296, 318, 319, 320, 305, 303, 304, 302, 264, 419, 420, 421, 325, 322, 435, 436, 434]
theorem nwl_X6_bestFeed_r6 : nwp_X6_bestFeed_r6.map nw = wsX6_bestFeed_r6 := nw_c nwe_298 (nw_c nwe_297 (nw_c nwe_299 (nw_c nwe_300 (nw_c nwe_301 (nw_c nwe_296 (nw_c nwe_318 (nw_c nwe_319 (nw_c nwe_320 (nw_c nwe_305 (nw_c nwe_303 (nw_c nwe_304 (nw_c nwe_302 (nw_c nwe_264 (nw_c nwe_419 (nw_c nwe_420 (nw_c nwe_421 (nw_c nwe_325 (nw_c nwe_322 (nw_c nwe_435 (nw_c nwe_436 (nw_c nwe_434 nw_n)))))))))))))))))))))
def nwp_X6_bestFeed : List Nat := 454 :: ((((((nwp_X6_bestFeed_r1 ++ (nwp_X6_bestFeed_r2 ++ (nwp_X6_bestFeed_r3 ++ (nwp_X6_bestFeed_r4 ++ (nwp_X6_bestFeed_r5 ++ nwp_X6_bestFeed_r6))))) ++ nwp_X60) ++ nwp_X50) ++ nwp_X30) ++ nwp_X10))
theorem nwl_X6_bestFeed : nwp_X6_bestFeed.map nw = wsX6_bestFeed := nw_c nwe_454 (nw_a (nw_a (nw_a (nw_a (nw_a (nwl_X6_bestFeed_r1) (nw_a (nwl_X6_bestFeed_r2) (nw_a (nwl_X6_bestFeed_r3) (nw_a (nwl_X6_bestFeed_r4) (nw_a (nwl_X6_bestFeed_r5) (nwl_X6_bestFeed_r6)))))) (nwl_X60)) (nwl_X50)) (nwl_X30)) (nwl_X10))
def nwp_X6_gain_r1 : List Nat := [337, 329, 338, 452, 375, 376, 363, 366, 361, 362, 359, 372, 373, 374, 364, 349, 365, 430, 431, 432, 259, 260, 230, 253]
theorem nwl_X6_gain_r1 : nwp_X6_gain_r1.map nw = wsX6_gain_r1 := nw_c nwe_337 (nw_c nwe_329 (nw_c nwe_338 (nw_c nwe_452 (nw_c nwe_375 (nw_c nwe_376 (nw_c nwe_363 (nw_c nwe_366 (nw_c nwe_361 (nw_c nwe_362 (nw_c nwe_359 (nw_c nwe_372 (nw_c nwe_373 (nw_c nwe_374 (nw_c nwe_364 (nw_c nwe_349 (nw_c nwe_365 (nw_c nwe_430 (nw_c nwe_431 (nw_c nwe_432 (nw_c nwe_259 (nw_c nwe_260 (nw_c nwe_230 (nw_c nwe_253 nw_n)))))))))))))))))))))))
def nwp_X6_gain_r2 : List Nat := [99, 100, 101, 232, 233, 234, 235, 236, 237, 240, 254, 241, 242, 244, 245, 246, 255, 158, 159, 87, 94, 76, 82, 95]
theorem nwl_X6_gain_r2 : nwp_X6_gain_r2.map nw = wsX6_gain_r2 := nw_c nwe_99 (nw_c nwe_100 (nw_c nwe_101 (nw_c nwe_232 (nw_c nwe_233 (nw_c nwe_234 (nw_c nwe_235 (nw_c nwe_236 (nw_c nwe_237 (nw_c nwe_240 (nw_c nwe_254 (nw_c nwe_241 (nw_c nwe_242 (nw_c nwe_244 (nw_c nwe_245 (nw_c nwe_246 (nw_c nwe_255 (nw_c nwe_158 (nw_c nwe_159 (nw_c nwe_87 (nw_c nwe_94 (nw_c nwe_76 (nw_c nwe_82 (nw_c nwe_95 nw_n)))))))))))))))))))))))
def nwp_X6_gain_r3 : List Nat := [96, 79, 97, 98, 256, 257, 258, 252, 231, 247, 243, 419, 420, 421, 325, 322, 323, 324, 321, 306, 307, 308, 269, 309]
theorem nwl_X6_gain_r3 : nwp_X6_gain_r3.map nw = wsX6_gain_r3 := nw_c nwe_96 (nw_c nwe_79 (nw_c nwe_97 (nw_c nwe_98 (nw_c nwe_256 (nw_c nwe_257 (nw_c nwe_258 (nw_c nwe_252 (nw_c nwe_231 (nw_c nwe_247 (nw_c nwe_243 (nw_c nwe_419 (nw_c nwe_420 (nw_c nwe_421 (nw_c nwe_325 (nw_c nwe_322 (nw_c nwe_323 (nw_c nwe_324 (nw_c nwe_321 (nw_c nwe_306 (nw_c nwe_307 (nw_c nwe_308 (nw_c nwe_269 (nw_c nwe_309 nw_n)))))))))))))))))))))))
def nwp_X6_gain_r4 : List Nat := [310, 311, 284, 263, 281, 282, 283, 280, 274, 275, 276, 192, 184, 181, 185, 277, 278, 279, 188, 182, 189, 106, 107, 102]
theorem nwl_X6_gain_r4 : nwp_X6_gain_r4.map nw = wsX6_gain_r4 := nw_c nwe_310 (nw_c nwe_311 (nw_c nwe_284 (nw_c nwe_263 (nw_c nwe_281 (nw_c nwe_282 (nw_c nwe_283 (nw_c nwe_280 (nw_c nwe_274 (nw_c nwe_275 (nw_c nwe_276 (nw_c nwe_192 (nw_c nwe_184 (nw_c nwe_181 (nw_c nwe_185 (nw_c nwe_277 (nw_c nwe_278 (nw_c nwe_279 (nw_c nwe_188 (nw_c nwe_182 (nw_c nwe_189 (nw_c nwe_106 (nw_c nwe_107 (nw_c nwe_102 nw_n)))))))))))))))))))))))
def nwp_X6_gain_r5 : List Nat := [190, 191, 186, 193, 194, 187, 312, 313, 314, 295, 248, 250, 172, 173, 167, 290, 291, 285, 292, 293, 294, 286, 287, 288]
theorem nwl_X6_gain_r5 : nwp_X6_gain_r5.map nw = wsX6_gain_r5 := nw_c nwe_190 (nw_c nwe_191 (nw_c nwe_186 (nw_c nwe_193 (nw_c nwe_194 (nw_c nwe_187 (nw_c nwe_312 (nw_c nwe_313 (nw_c nwe_314 (nw_c nwe_295 (nw_c nwe_248 (nw_c nwe_250 (nw_c nwe_172 (nw_c nwe_173 (nw_c nwe_167 (nw_c nwe_290 (nw_c nwe_291 (nw_c nwe_285 (nw_c nwe_292 (nw_c nwe_293 (nw_c nwe_294 (nw_c nwe_286 (nw_c nwe_287 (nw_c nwe_288 nw_n)))))))))))))))))))))))
def nwp_X6_gain_r6 : List Nat := [289, 315, 316, 317, 298, 297, 299, 300, 301, 296, 318, 319, 320, 305, 303, 304, 302, 264, 78, 80, 395, 396, 397, 268]
theorem nwl_X6_gain_r6 : nwp_X6_gain_r6.map nw = wsX6_gain_r6 := nw_c nwe_289 (nw_c nwe_315 (nw_c nwe_316 (nw_c nwe_317 (nw_c nwe_298 (nw_c nwe_297 (nw_c nwe_299 (nw_c nwe_300 (nw_c nwe_301 (nw_c nwe_296 (nw_c nwe_318 (nw_c nwe_319 (nw_c nwe_320 (nw_c nwe_305 (nw_c nwe_303 (nw_c nwe_304 (nw_c nwe_302 (nw_c nwe_264 (nw_c nwe_78 (nw_c nwe_80 (nw_c nwe_395 (nw_c nwe_396 (nw_c nwe_397 (nw_c nwe_268 nw_n)))))))))))))))))))))))
def nwp_X6_gain : List Nat := 455 :: ((((((nwp_X6_gain_r1 ++ (nwp_X6_gain_r2 ++ (nwp_X6_gain_r3 ++ (nwp_X6_gain_r4 ++ (nwp_X6_gain_r5 ++ nwp_X6_gain_r6))))) ++ nwp_X60) ++ nwp_X50) ++ nwp_X30) ++ nwp_X10))
theorem nwl_X6_gain : nwp_X6_gain.map nw = wsX6_gain := nw_c nwe_455 (nw_a (nw_a (nw_a (nw_a (nw_a (nwl_X6_gain_r1) (nw_a (nwl_X6_gain_r2) (nw_a (nwl_X6_gain_r3) (nw_a (nwl_X6_gain_r4) (nw_a (nwl_X6_gain_r5) (nwl_X6_gain_r6)))))) (nwl_X60)) (nwl_X50)) (nwl_X30)) (nwl_X10))
def nwp_X6_bestTrade_r1 : List Nat := [337, 329, 338, 452, 430, 431, 432, 259, 260, 230, 253, 99, 100, 101, 232, 233, 234, 235, 236, 237, 240, 254, 241, 242]
theorem nwl_X6_bestTrade_r1 : nwp_X6_bestTrade_r1.map nw = wsX6_bestTrade_r1 := nw_c nwe_337 (nw_c nwe_329 (nw_c nwe_338 (nw_c nwe_452 (nw_c nwe_430 (nw_c nwe_431 (nw_c nwe_432 (nw_c nwe_259 (nw_c nwe_260 (nw_c nwe_230 (nw_c nwe_253 (nw_c nwe_99 (nw_c nwe_100 (nw_c nwe_101 (nw_c nwe_232 (nw_c nwe_233 (nw_c nwe_234 (nw_c nwe_235 (nw_c nwe_236 (nw_c nwe_237 (nw_c nwe_240 (nw_c nwe_254 (nw_c nwe_241 (nw_c nwe_242 nw_n)))))))))))))))))))))))
def nwp_X6_bestTrade_r2 : List Nat := [244, 245, 246, 255, 158, 159, 87, 94, 76, 82, 95, 96, 79, 97, 98, 256, 257, 258, 252, 231, 247, 243, 419, 420]
theorem nwl_X6_bestTrade_r2 : nwp_X6_bestTrade_r2.map nw = wsX6_bestTrade_r2 := nw_c nwe_244 (nw_c nwe_245 (nw_c nwe_246 (nw_c nwe_255 (nw_c nwe_158 (nw_c nwe_159 (nw_c nwe_87 (nw_c nwe_94 (nw_c nwe_76 (nw_c nwe_82 (nw_c nwe_95 (nw_c nwe_96 (nw_c nwe_79 (nw_c nwe_97 (nw_c nwe_98 (nw_c nwe_256 (nw_c nwe_257 (nw_c nwe_258 (nw_c nwe_252 (nw_c nwe_231 (nw_c nwe_247 (nw_c nwe_243 (nw_c nwe_419 (nw_c nwe_420 nw_n)))))))))))))))))))))))
def nwp_X6_bestTrade_r3 : List Nat := [421, 325, 322, 323, 324, 321, 306, 307, 308, 269, 309, 310, 311, 284, 263, 281, 282, 283, 280, 274, 275, 276, 192, 184]
theorem nwl_X6_bestTrade_r3 : nwp_X6_bestTrade_r3.map nw = wsX6_bestTrade_r3 := nw_c nwe_421 (nw_c nwe_325 (nw_c nwe_322 (nw_c nwe_323 (nw_c nwe_324 (nw_c nwe_321 (nw_c nwe_306 (nw_c nwe_307 (nw_c nwe_308 (nw_c nwe_269 (nw_c nwe_309 (nw_c nwe_310 (nw_c nwe_311 (nw_c nwe_284 (nw_c nwe_263 (nw_c nwe_281 (nw_c nwe_282 (nw_c nwe_283 (nw_c nwe_280 (nw_c nwe_274 (nw_c nwe_275 (nw_c nwe_276 (nw_c nwe_192 (nw_c nwe_184 nw_n)))))))))))))))))))))))
def nwp_X6_bestTrade_r4 : List Nat := [181, 185, 277, 278, 279, 188, 182, 189, 106, 107, 102, 190, 191, 186, 193, 194, 187, 312, 313, 314, 295, 248, 250, 172]
theorem nwl_X6_bestTrade_r4 : nwp_X6_bestTrade_r4.map nw = wsX6_bestTrade_r4 := nw_c nwe_181 (nw_c nwe_185 (nw_c nwe_277 (nw_c nwe_278 (nw_c nwe_279 (nw_c nwe_188 (nw_c nwe_182 (nw_c nwe_189 (nw_c nwe_106 (nw_c nwe_107 (nw_c nwe_102 (nw_c nwe_190 (nw_c nwe_191 (nw_c nwe_186 (nw_c nwe_193 (nw_c nwe_194 (nw_c nwe_187 (nw_c nwe_312 (nw_c nwe_313 (nw_c nwe_314 (nw_c nwe_295 (nw_c nwe_248 (nw_c nwe_250 (nw_c nwe_172 nw_n)))))))))))))))))))))))
def nwp_X6_bestTrade_r5 : List Nat := [173, 167, 290, 291, 285, 292, 293, 294, 286, 287, 288, 289, 315, 316, 317, 298, 297, 299, 300, 301, 296, 318, 319, 320]
theorem nwl_X6_bestTrade_r5 : nwp_X6_bestTrade_r5.map nw = wsX6_bestTrade_r5 := nw_c nwe_173 (nw_c nwe_167 (nw_c nwe_290 (nw_c nwe_291 (nw_c nwe_285 (nw_c nwe_292 (nw_c nwe_293 (nw_c nwe_294 (nw_c nwe_286 (nw_c nwe_287 (nw_c nwe_288 (nw_c nwe_289 (nw_c nwe_315 (nw_c nwe_316 (nw_c nwe_317 (nw_c nwe_298 (nw_c nwe_297 (nw_c nwe_299 (nw_c nwe_300 (nw_c nwe_301 (nw_c nwe_296 (nw_c nwe_318 (nw_c nwe_319 (nw_c nwe_320 nw_n)))))))))))))))))))))))
def nwp_X6_bestTrade_r6 : List Nat := [305, 303, 304, 302, 264, 78, 80, 395, 396, 397, 268, 372, 373, 374, 363, 364, 349, 365]
theorem nwl_X6_bestTrade_r6 : nwp_X6_bestTrade_r6.map nw = wsX6_bestTrade_r6 := nw_c nwe_305 (nw_c nwe_303 (nw_c nwe_304 (nw_c nwe_302 (nw_c nwe_264 (nw_c nwe_78 (nw_c nwe_80 (nw_c nwe_395 (nw_c nwe_396 (nw_c nwe_397 (nw_c nwe_268 (nw_c nwe_372 (nw_c nwe_373 (nw_c nwe_374 (nw_c nwe_363 (nw_c nwe_364 (nw_c nwe_349 (nw_c nwe_365 nw_n)))))))))))))))))
def nwp_X6_bestTrade : List Nat := 456 :: ((((((nwp_X6_bestTrade_r1 ++ (nwp_X6_bestTrade_r2 ++ (nwp_X6_bestTrade_r3 ++ (nwp_X6_bestTrade_r4 ++ (nwp_X6_bestTrade_r5 ++ nwp_X6_bestTrade_r6))))) ++ nwp_X60) ++ nwp_X50) ++ nwp_X30) ++ nwp_X10))
theorem nwl_X6_bestTrade : nwp_X6_bestTrade.map nw = wsX6_bestTrade := nw_c nwe_456 (nw_a (nw_a (nw_a (nw_a (nw_a (nwl_X6_bestTrade_r1) (nw_a (nwl_X6_bestTrade_r2) (nw_a (nwl_X6_bestTrade_r3) (nw_a (nwl_X6_bestTrade_r4) (nw_a (nwl_X6_bestTrade_r5) (nwl_X6_bestTrade_r6)))))) (nwl_X60)) (nwl_X50)) (nwl_X30)) (nwl_X10))
def nwp_X6_share_r1 : List Nat := [337, 329, 452, 375, 376, 363, 366, 361, 362, 359, 372, 373, 374, 364, 349, 365, 430, 431, 432, 259, 260, 230, 253, 99]
theorem nwl_X6_share_r1 : nwp_X6_share_r1.map nw = wsX6_share_r1 := nw_c nwe_337 (nw_c nwe_329 (nw_c nwe_452 (nw_c nwe_375 (nw_c nwe_376 (nw_c nwe_363 (nw_c nwe_366 (nw_c nwe_361 (nw_c nwe_362 (nw_c nwe_359 (nw_c nwe_372 (nw_c nwe_373 (nw_c nwe_374 (nw_c nwe_364 (nw_c nwe_349 (nw_c nwe_365 (nw_c nwe_430 (nw_c nwe_431 (nw_c nwe_432 (nw_c nwe_259 (nw_c nwe_260 (nw_c nwe_230 (nw_c nwe_253 (nw_c nwe_99 nw_n)))))))))))))))))))))))
def nwp_X6_share_r2 : List Nat := [100, 101, 232, 233, 234, 235, 236, 237, 240, 254, 241, 242, 244, 245, 246, 255, 158, 159, 87, 94, 76, 82, 95, 96]
theorem nwl_X6_share_r2 : nwp_X6_share_r2.map nw = wsX6_share_r2 := nw_c nwe_100 (nw_c nwe_101 (nw_c nwe_232 (nw_c nwe_233 (nw_c nwe_234 (nw_c nwe_235 (nw_c nwe_236 (nw_c nwe_237 (nw_c nwe_240 (nw_c nwe_254 (nw_c nwe_241 (nw_c nwe_242 (nw_c nwe_244 (nw_c nwe_245 (nw_c nwe_246 (nw_c nwe_255 (nw_c nwe_158 (nw_c nwe_159 (nw_c nwe_87 (nw_c nwe_94 (nw_c nwe_76 (nw_c nwe_82 (nw_c nwe_95 (nw_c nwe_96 nw_n)))))))))))))))))))))))
def nwp_X6_share_r3 : List Nat := [79, 97, 98, 256, 257, 258, 252, 231, 247, 243, 444, 307, 308, 269, 426, 323, 324, 321, 306, 309, 310, 311, 284, 263]
theorem nwl_X6_share_r3 : nwp_X6_share_r3.map nw = wsX6_share_r3 := nw_c nwe_79 (nw_c nwe_97 (nw_c nwe_98 (nw_c nwe_256 (nw_c nwe_257 (nw_c nwe_258 (nw_c nwe_252 (nw_c nwe_231 (nw_c nwe_247 (nw_c nwe_243 (nw_c nwe_444 (nw_c nwe_307 (nw_c nwe_308 (nw_c nwe_269 (nw_c nwe_426 (nw_c nwe_323 (nw_c nwe_324 (nw_c nwe_321 (nw_c nwe_306 (nw_c nwe_309 (nw_c nwe_310 (nw_c nwe_311 (nw_c nwe_284 (nw_c nwe_263 nw_n)))))))))))))))))))))))
def nwp_X6_share_r4 : List Nat := [281, 282, 283, 280, 274, 275, 276, 192, 184, 181, 185, 277, 278, 279, 188, 182, 189, 106, 107, 102, 190, 191, 186, 193]
theorem nwl_X6_share_r4 : nwp_X6_share_r4.map nw = wsX6_share_r4 := nw_c nwe_281 (nw_c nwe_282 (nw_c nwe_283 (nw_c nwe_280 (nw_c nwe_274 (nw_c nwe_275 (nw_c nwe_276 (nw_c nwe_192 (nw_c nwe_184 (nw_c nwe_181 (nw_c nwe_185 (nw_c nwe_277 (nw_c nwe_278 (nw_c nwe_279 (nw_c nwe_188 (nw_c nwe_182 (nw_c nwe_189 (nw_c nwe_106 (nw_c nwe_107 (nw_c nwe_102 (nw_c nwe_190 (nw_c nwe_191 (nw_c nwe_186 (nw_c nwe_193 nw_n)))))))))))))))))))))))
def nwp_X6_share_r5 : List Nat := [194, 187, 312, 313, 314, 295, 248, 250, 172, 173, 167, 290, 291, 285, 292, 293, 294, 286, 287, 288, 289, 315, 316, 317]
theorem nwl_X6_share_r5 : nwp_X6_share_r5.map nw = wsX6_share_r5 := nw_c nwe_194 (nw_c nwe_187 (nw_c nwe_312 (nw_c nwe_313 (nw_c nwe_314 (nw_c nwe_295 (nw_c nwe_248 (nw_c nwe_250 (nw_c nwe_172 (nw_c nwe_173 (nw_c nwe_167 (nw_c nwe_290 (nw_c nwe_291 (nw_c nwe_285 (nw_c nwe_292 (nw_c nwe_293 (nw_c nwe_294 (nw_c nwe_286 (nw_c nwe_287 (nw_c nwe_288 (nw_c nwe_289 (nw_c nwe_315 (nw_c nwe_316 (nw_c nwe_317 nw_n)))))))))))))))))))))))
def nwp_X6_share_r6 : List Nat := [298, 297, 299, 300, 301, 296, 318, 319, 320, 305, 303, 304, 302, 264, 78, 80, 457, 458, 459, 271]
theorem nwl_X6_share_r6 : nwp_X6_share_r6.map nw = wsX6_share_r6 := nw_c nwe_298 (nw_c nwe_297 (nw_c nwe_299 (nw_c nwe_300 (nw_c nwe_301 (nw_c nwe_296 (nw_c nwe_318 (nw_c nwe_319 (nw_c nwe_320 (nw_c nwe_305 (nw_c nwe_303 (nw_c nwe_304 (nw_c nwe_302 (nw_c nwe_264 (nw_c nwe_78 (nw_c nwe_80 (nw_c nwe_457 (nw_c nwe_458 (nw_c nwe_459 (nw_c nwe_271 nw_n)))))))))))))))))))
def nwp_X6_share : List Nat := 460 :: ((((((nwp_X6_share_r1 ++ (nwp_X6_share_r2 ++ (nwp_X6_share_r3 ++ (nwp_X6_share_r4 ++ (nwp_X6_share_r5 ++ nwp_X6_share_r6))))) ++ nwp_X60) ++ nwp_X50) ++ nwp_X30) ++ nwp_X10))
theorem nwl_X6_share : nwp_X6_share.map nw = wsX6_share := nw_c nwe_460 (nw_a (nw_a (nw_a (nw_a (nw_a (nwl_X6_share_r1) (nw_a (nwl_X6_share_r2) (nw_a (nwl_X6_share_r3) (nw_a (nwl_X6_share_r4) (nw_a (nwl_X6_share_r5) (nwl_X6_share_r6)))))) (nwl_X60)) (nwl_X50)) (nwl_X30)) (nwl_X10))
def nwp_X6_isSheet : List Nat := 461 :: ([361, 362, 363, 359])
theorem nwl_X6_isSheet : nwp_X6_isSheet.map nw = wsX6_isSheet := nw_c nwe_461 (nw_c nwe_361 (nw_c nwe_362 (nw_c nwe_363 (nw_c nwe_359 nw_n))))
def nwp_X6_leastMark_r1 : List Nat := [337, 329, 382, 340, 338, 383, 418, 452, 430, 431, 432, 259, 260, 230, 253, 99, 100, 101, 232, 233, 234, 235, 236, 237]
theorem nwl_X6_leastMark_r1 : nwp_X6_leastMark_r1.map nw = wsX6_leastMark_r1 := nw_c nwe_337 (nw_c nwe_329 (nw_c nwe_382 (nw_c nwe_340 (nw_c nwe_338 (nw_c nwe_383 (nw_c nwe_418 (nw_c nwe_452 (nw_c nwe_430 (nw_c nwe_431 (nw_c nwe_432 (nw_c nwe_259 (nw_c nwe_260 (nw_c nwe_230 (nw_c nwe_253 (nw_c nwe_99 (nw_c nwe_100 (nw_c nwe_101 (nw_c nwe_232 (nw_c nwe_233 (nw_c nwe_234 (nw_c nwe_235 (nw_c nwe_236 (nw_c nwe_237 nw_n)))))))))))))))))))))))
def nwp_X6_leastMark_r2 : List Nat := [240, 254, 241, 242, 244, 245, 246, 255, 158, 159, 87, 94, 76, 82, 95, 96, 79, 97, 98, 256, 257, 258, 252, 231]
theorem nwl_X6_leastMark_r2 : nwp_X6_leastMark_r2.map nw = wsX6_leastMark_r2 := nw_c nwe_240 (nw_c nwe_254 (nw_c nwe_241 (nw_c nwe_242 (nw_c nwe_244 (nw_c nwe_245 (nw_c nwe_246 (nw_c nwe_255 (nw_c nwe_158 (nw_c nwe_159 (nw_c nwe_87 (nw_c nwe_94 (nw_c nwe_76 (nw_c nwe_82 (nw_c nwe_95 (nw_c nwe_96 (nw_c nwe_79 (nw_c nwe_97 (nw_c nwe_98 (nw_c nwe_256 (nw_c nwe_257 (nw_c nwe_258 (nw_c nwe_252 (nw_c nwe_231 nw_n)))))))))))))))))))))))
def nwp_X6_leastMark_r3 : List Nat := [247, 243, 426, 323, 324, 321, 306, 307, 308, 269, 309, 310, 311, 284, 263, 281, 282, 283, 280, 274, 275, 276, 192, 184]
theorem nwl_X6_leastMark_r3 : nwp_X6_leastMark_r3.map nw = wsX6_leastMark_r3 := nw_c nwe_247 (nw_c nwe_243 (nw_c nwe_426 (nw_c nwe_323 (nw_c nwe_324 (nw_c nwe_321 (nw_c nwe_306 (nw_c nwe_307 (nw_c nwe_308 (nw_c nwe_269 (nw_c nwe_309 (nw_c nwe_310 (nw_c nwe_311 (nw_c nwe_284 (nw_c nwe_263 (nw_c nwe_281 (nw_c nwe_282 (nw_c nwe_283 (nw_c nwe_280 (nw_c nwe_274 (nw_c nwe_275 (nw_c nwe_276 (nw_c nwe_192 (nw_c nwe_184 nw_n)))))))))))))))))))))))
def nwp_X6_leastMark_r4 : List Nat := [181, 185, 277, 278, 279, 188, 182, 189, 106, 107, 102, 190, 191, 186, 193, 194, 187, 312, 313, 314, 295, 248, 250, 172]
theorem nwl_X6_leastMark_r4 : nwp_X6_leastMark_r4.map nw = wsX6_leastMark_r4 := nw_c nwe_181 (nw_c nwe_185 (nw_c nwe_277 (nw_c nwe_278 (nw_c nwe_279 (nw_c nwe_188 (nw_c nwe_182 (nw_c nwe_189 (nw_c nwe_106 (nw_c nwe_107 (nw_c nwe_102 (nw_c nwe_190 (nw_c nwe_191 (nw_c nwe_186 (nw_c nwe_193 (nw_c nwe_194 (nw_c nwe_187 (nw_c nwe_312 (nw_c nwe_313 (nw_c nwe_314 (nw_c nwe_295 (nw_c nwe_248 (nw_c nwe_250 (nw_c nwe_172 nw_n)))))))))))))))))))))))
def nwp_X6_leastMark_r5 : List Nat := [173, 167, 290, 291, 285, 292, 293, 294, 286, 287, 288, 289, 315, 316, 317, 298, 297, 299, 300, 301, 296, 318, 319, 320]
theorem nwl_X6_leastMark_r5 : nwp_X6_leastMark_r5.map nw = wsX6_leastMark_r5 := nw_c nwe_173 (nw_c nwe_167 (nw_c nwe_290 (nw_c nwe_291 (nw_c nwe_285 (nw_c nwe_292 (nw_c nwe_293 (nw_c nwe_294 (nw_c nwe_286 (nw_c nwe_287 (nw_c nwe_288 (nw_c nwe_289 (nw_c nwe_315 (nw_c nwe_316 (nw_c nwe_317 (nw_c nwe_298 (nw_c nwe_297 (nw_c nwe_299 (nw_c nwe_300 (nw_c nwe_301 (nw_c nwe_296 (nw_c nwe_318 (nw_c nwe_319 (nw_c nwe_320 nw_n)))))))))))))))))))))))
def nwp_X6_leastMark_r6 : List Nat := [305, 303, 304, 302, 264, 78, 80, 444, 462, 463, 464, 465, 351, 177, 165, 163]
theorem nwl_X6_leastMark_r6 : nwp_X6_leastMark_r6.map nw = wsX6_leastMark_r6 := nw_c nwe_305 (nw_c nwe_303 (nw_c nwe_304 (nw_c nwe_302 (nw_c nwe_264 (nw_c nwe_78 (nw_c nwe_80 (nw_c nwe_444 (nw_c nwe_462 (nw_c nwe_463 (nw_c nwe_464 (nw_c nwe_465 (nw_c nwe_351 (nw_c nwe_177 (nw_c nwe_165 (nw_c nwe_163 nw_n)))))))))))))))
def nwp_X6_leastMark : List Nat := 466 :: (((((((nwp_X6_leastMark_r1 ++ (nwp_X6_leastMark_r2 ++ (nwp_X6_leastMark_r3 ++ (nwp_X6_leastMark_r4 ++ (nwp_X6_leastMark_r5 ++ nwp_X6_leastMark_r6))))) ++ nwp_X60) ++ nwp_X50) ++ nwp_X30) ++ nwp_X10) ++ nwp_X20))
theorem nwl_X6_leastMark : nwp_X6_leastMark.map nw = wsX6_leastMark := nw_c nwe_466 (nw_a (nw_a (nw_a (nw_a (nw_a (nw_a (nwl_X6_leastMark_r1) (nw_a (nwl_X6_leastMark_r2) (nw_a (nwl_X6_leastMark_r3) (nw_a (nwl_X6_leastMark_r4) (nw_a (nwl_X6_leastMark_r5) (nwl_X6_leastMark_r6)))))) (nwl_X60)) (nwl_X50)) (nwl_X30)) (nwl_X10)) (nwl_X20))
def nwp_X6_whoHid_r1 : List Nat := [348, 467, 468, 469, 363, 461, 361, 362, 359, 372, 373, 374, 364, 349, 365, 470, 471, 472, 351, 166, 164, 473, 474, 475]
theorem nwl_X6_whoHid_r1 : nwp_X6_whoHid_r1.map nw = wsX6_whoHid_r1 := nw_c nwe_348 (nw_c nwe_467 (nw_c nwe_468 (nw_c nwe_469 (nw_c nwe_363 (nw_c nwe_461 (nw_c nwe_361 (nw_c nwe_362 (nw_c nwe_359 (nw_c nwe_372 (nw_c nwe_373 (nw_c nwe_374 (nw_c nwe_364 (nw_c nwe_349 (nw_c nwe_365 (nw_c nwe_470 (nw_c nwe_471 (nw_c nwe_472 (nw_c nwe_351 (nw_c nwe_166 (nw_c nwe_164 (nw_c nwe_473 (nw_c nwe_474 (nw_c nwe_475 nw_n)))))))))))))))))))))))
def nwp_X6_whoHid_r2 : List Nat := [466, 337, 329, 382, 340, 338, 383, 418, 452, 430, 431, 432, 259, 260, 230, 253, 99, 100, 101, 232, 233, 234, 235, 236]
theorem nwl_X6_whoHid_r2 : nwp_X6_whoHid_r2.map nw = wsX6_whoHid_r2 := nw_c nwe_466 (nw_c nwe_337 (nw_c nwe_329 (nw_c nwe_382 (nw_c nwe_340 (nw_c nwe_338 (nw_c nwe_383 (nw_c nwe_418 (nw_c nwe_452 (nw_c nwe_430 (nw_c nwe_431 (nw_c nwe_432 (nw_c nwe_259 (nw_c nwe_260 (nw_c nwe_230 (nw_c nwe_253 (nw_c nwe_99 (nw_c nwe_100 (nw_c nwe_101 (nw_c nwe_232 (nw_c nwe_233 (nw_c nwe_234 (nw_c nwe_235 (nw_c nwe_236 nw_n)))))))))))))))))))))))
def nwp_X6_whoHid_r3 : List Nat := [237, 240, 254, 241, 242, 244, 245, 246, 255, 158, 159, 87, 94, 76, 82, 95, 96, 79, 97, 98, 256, 257, 258, 252]
theorem nwl_X6_whoHid_r3 : nwp_X6_whoHid_r3.map nw = wsX6_whoHid_r3 := nw_c nwe_237 (nw_c nwe_240 (nw_c nwe_254 (nw_c nwe_241 (nw_c nwe_242 (nw_c nwe_244 (nw_c nwe_245 (nw_c nwe_246 (nw_c nwe_255 (nw_c nwe_158 (nw_c nwe_159 (nw_c nwe_87 (nw_c nwe_94 (nw_c nwe_76 (nw_c nwe_82 (nw_c nwe_95 (nw_c nwe_96 (nw_c nwe_79 (nw_c nwe_97 (nw_c nwe_98 (nw_c nwe_256 (nw_c nwe_257 (nw_c nwe_258 (nw_c nwe_252 nw_n)))))))))))))))))))))))
def nwp_X6_whoHid_r4 : List Nat := [231, 247, 243, 426, 323, 324, 321, 306, 307, 308, 269, 309, 310, 311, 284, 263, 281, 282, 283, 280, 274, 275, 276, 192]
theorem nwl_X6_whoHid_r4 : nwp_X6_whoHid_r4.map nw = wsX6_whoHid_r4 := nw_c nwe_231 (nw_c nwe_247 (nw_c nwe_243 (nw_c nwe_426 (nw_c nwe_323 (nw_c nwe_324 (nw_c nwe_321 (nw_c nwe_306 (nw_c nwe_307 (nw_c nwe_308 (nw_c nwe_269 (nw_c nwe_309 (nw_c nwe_310 (nw_c nwe_311 (nw_c nwe_284 (nw_c nwe_263 (nw_c nwe_281 (nw_c nwe_282 (nw_c nwe_283 (nw_c nwe_280 (nw_c nwe_274 (nw_c nwe_275 (nw_c nwe_276 (nw_c nwe_192 nw_n)))))))))))))))))))))))
def nwp_X6_whoHid_r5 : List Nat := [184, 181, 185, 277, 278, 279, 188, 182, 189, 106, 107, 102, 190, 191, 186, 193, 194, 187, 312, 313, 314, 295, 248, 250]
theorem nwl_X6_whoHid_r5 : nwp_X6_whoHid_r5.map nw = wsX6_whoHid_r5 := nw_c nwe_184 (nw_c nwe_181 (nw_c nwe_185 (nw_c nwe_277 (nw_c nwe_278 (nw_c nwe_279 (nw_c nwe_188 (nw_c nwe_182 (nw_c nwe_189 (nw_c nwe_106 (nw_c nwe_107 (nw_c nwe_102 (nw_c nwe_190 (nw_c nwe_191 (nw_c nwe_186 (nw_c nwe_193 (nw_c nwe_194 (nw_c nwe_187 (nw_c nwe_312 (nw_c nwe_313 (nw_c nwe_314 (nw_c nwe_295 (nw_c nwe_248 (nw_c nwe_250 nw_n)))))))))))))))))))))))
def nwp_X6_whoHid_r6 : List Nat := [172, 173, 167, 290, 291, 285, 292, 293, 294, 286, 287, 288, 289, 315, 316, 317, 298, 297, 299, 300, 301, 296, 318, 319]
theorem nwl_X6_whoHid_r6 : nwp_X6_whoHid_r6.map nw = wsX6_whoHid_r6 := nw_c nwe_172 (nw_c nwe_173 (nw_c nwe_167 (nw_c nwe_290 (nw_c nwe_291 (nw_c nwe_285 (nw_c nwe_292 (nw_c nwe_293 (nw_c nwe_294 (nw_c nwe_286 (nw_c nwe_287 (nw_c nwe_288 (nw_c nwe_289 (nw_c nwe_315 (nw_c nwe_316 (nw_c nwe_317 (nw_c nwe_298 (nw_c nwe_297 (nw_c nwe_299 (nw_c nwe_300 (nw_c nwe_301 (nw_c nwe_296 (nw_c nwe_318 (nw_c nwe_319 nw_n)))))))))))))))))))))))
def nwp_X6_whoHid_r7 : List Nat := [320, 305, 303, 304, 302, 264, 78, 80, 444, 462, 463, 464, 465, 177, 165, 163]
theorem nwl_X6_whoHid_r7 : nwp_X6_whoHid_r7.map nw = wsX6_whoHid_r7 := nw_c nwe_320 (nw_c nwe_305 (nw_c nwe_303 (nw_c nwe_304 (nw_c nwe_302 (nw_c nwe_264 (nw_c nwe_78 (nw_c nwe_80 (nw_c nwe_444 (nw_c nwe_462 (nw_c nwe_463 (nw_c nwe_464 (nw_c nwe_465 (nw_c nwe_177 (nw_c nwe_165 (nw_c nwe_163 nw_n)))))))))))))))
def nwp_X6_whoHid : List Nat := 476 :: (((((((nwp_X6_whoHid_r1 ++ (nwp_X6_whoHid_r2 ++ (nwp_X6_whoHid_r3 ++ (nwp_X6_whoHid_r4 ++ (nwp_X6_whoHid_r5 ++ (nwp_X6_whoHid_r6 ++ nwp_X6_whoHid_r7)))))) ++ nwp_X60) ++ nwp_X20) ++ nwp_X50) ++ nwp_X30) ++ nwp_X10))
theorem nwl_X6_whoHid : nwp_X6_whoHid.map nw = wsX6_whoHid := nw_c nwe_476 (nw_a (nw_a (nw_a (nw_a (nw_a (nw_a (nwl_X6_whoHid_r1) (nw_a (nwl_X6_whoHid_r2) (nw_a (nwl_X6_whoHid_r3) (nw_a (nwl_X6_whoHid_r4) (nw_a (nwl_X6_whoHid_r5) (nw_a (nwl_X6_whoHid_r6) (nwl_X6_whoHid_r7))))))) (nwl_X60)) (nwl_X20)) (nwl_X50)) (nwl_X30)) (nwl_X10))
def nwp_X6_voice_r1 : List Nat := [346, 329, 382, 383, 477, 375, 376, 363, 366, 361, 362, 359, 372, 373, 374, 364, 349, 365, 478, 479, 480, 208, 228, 198]
theorem nwl_X6_voice_r1 : nwp_X6_voice_r1.map nw = wsX6_voice_r1 := nw_c nwe_346 (nw_c nwe_329 (nw_c nwe_382 (nw_c nwe_383 (nw_c nwe_477 (nw_c nwe_375 (nw_c nwe_376 (nw_c nwe_363 (nw_c nwe_366 (nw_c nwe_361 (nw_c nwe_362 (nw_c nwe_359 (nw_c nwe_372 (nw_c nwe_373 (nw_c nwe_374 (nw_c nwe_364 (nw_c nwe_349 (nw_c nwe_365 (nw_c nwe_478 (nw_c nwe_479 (nw_c nwe_480 (nw_c nwe_208 (nw_c nwe_228 (nw_c nwe_198 nw_n)))))))))))))))))))))))
def nwp_X6_voice_r2 : List Nat := [227, 199, 200, 201, 202, 217, 218, 219, 214, 205, 206, 207, 226, 209, 210, 211, 212, 213, 215, 216, 116, 117, 87, 108]
theorem nwl_X6_voice_r2 : nwp_X6_voice_r2.map nw = wsX6_voice_r2 := nw_c nwe_227 (nw_c nwe_199 (nw_c nwe_200 (nw_c nwe_201 (nw_c nwe_202 (nw_c nwe_217 (nw_c nwe_218 (nw_c nwe_219 (nw_c nwe_214 (nw_c nwe_205 (nw_c nwe_206 (nw_c nwe_207 (nw_c nwe_226 (nw_c nwe_209 (nw_c nwe_210 (nw_c nwe_211 (nw_c nwe_212 (nw_c nwe_213 (nw_c nwe_215 (nw_c nwe_216 (nw_c nwe_116 (nw_c nwe_117 (nw_c nwe_87 (nw_c nwe_108 nw_n)))))))))))))))))))))))
def nwp_X6_voice_r3 : List Nat := [76, 82, 220, 221, 222, 204, 223, 224, 225]
theorem nwl_X6_voice_r3 : nwp_X6_voice_r3.map nw = wsX6_voice_r3 := nw_c nwe_76 (nw_c nwe_82 (nw_c nwe_220 (nw_c nwe_221 (nw_c nwe_222 (nw_c nwe_204 (nw_c nwe_223 (nw_c nwe_224 (nw_c nwe_225 nw_n))))))))
def nwp_X6_voice : List Nat := 481 :: ((((((nwp_X6_voice_r1 ++ (nwp_X6_voice_r2 ++ nwp_X6_voice_r3)) ++ nwp_X60) ++ nwp_X50) ++ nwp_X40) ++ nwp_X10))
theorem nwl_X6_voice : nwp_X6_voice.map nw = wsX6_voice := nw_c nwe_481 (nw_a (nw_a (nw_a (nw_a (nw_a (nwl_X6_voice_r1) (nw_a (nwl_X6_voice_r2) (nwl_X6_voice_r3))) (nwl_X60)) (nwl_X50)) (nwl_X40)) (nwl_X10))
def nwp_X6_body : List Nat := 482 :: (((([346, 483, 404, 361, 362, 363, 359, 372, 373, 374, 364, 349, 365, 484, 106, 107, 87, 102, 76, 82] ++ nwp_X60) ++ nwp_X40) ++ nwp_X10))
theorem nwl_X6_body : nwp_X6_body.map nw = wsX6_body := nw_c nwe_482 (nw_a (nw_a (nw_a (nw_c nwe_346 (nw_c nwe_483 (nw_c nwe_404 (nw_c nwe_361 (nw_c nwe_362 (nw_c nwe_363 (nw_c nwe_359 (nw_c nwe_372 (nw_c nwe_373 (nw_c nwe_374 (nw_c nwe_364 (nw_c nwe_349 (nw_c nwe_365 (nw_c nwe_484 (nw_c nwe_106 (nw_c nwe_107 (nw_c nwe_87 (nw_c nwe_102 (nw_c nwe_76 (nw_c nwe_82 nw_n)))))))))))))))))))) (nwl_X60)) (nwl_X40)) (nwl_X10))
def nwp_X6_sheet_r1 : List Nat := [348, 468, 469, 363, 461, 361, 362, 359, 372, 373, 374, 364, 349, 365, 485, 486, 487, 351, 168, 164, 169, 96, 79, 97]
theorem nwl_X6_sheet_r1 : nwp_X6_sheet_r1.map nw = wsX6_sheet_r1 := nw_c nwe_348 (nw_c nwe_468 (nw_c nwe_469 (nw_c nwe_363 (nw_c nwe_461 (nw_c nwe_361 (nw_c nwe_362 (nw_c nwe_359 (nw_c nwe_372 (nw_c nwe_373 (nw_c nwe_374 (nw_c nwe_364 (nw_c nwe_349 (nw_c nwe_365 (nw_c nwe_485 (nw_c nwe_486 (nw_c nwe_487 (nw_c nwe_351 (nw_c nwe_168 (nw_c nwe_164 (nw_c nwe_169 (nw_c nwe_96 (nw_c nwe_79 (nw_c nwe_97 nw_n)))))))))))))))))))))))
def nwp_X6_sheet_r2 : List Nat := [170, 78, 80, 165, 163, 171, 172, 173, 167]
theorem nwl_X6_sheet_r2 : nwp_X6_sheet_r2.map nw = wsX6_sheet_r2 := nw_c nwe_170 (nw_c nwe_78 (nw_c nwe_80 (nw_c nwe_165 (nw_c nwe_163 (nw_c nwe_171 (nw_c nwe_172 (nw_c nwe_173 (nw_c nwe_167 nw_n))))))))
def nwp_X6_sheet : List Nat := 488 :: ((((nwp_X6_sheet_r1 ++ nwp_X6_sheet_r2) ++ nwp_X60) ++ nwp_X20))
theorem nwl_X6_sheet : nwp_X6_sheet.map nw = wsX6_sheet := nw_c nwe_488 (nw_a (nw_a (nw_a (nwl_X6_sheet_r1) (nwl_X6_sheet_r2)) (nwl_X60)) (nwl_X20))
def nwp_X6_put_r1 : List Nat := [348, 467, 468, 469, 363, 461, 361, 362, 359, 372, 373, 374, 364, 349, 365, 470, 471, 472, 351, 166, 164, 489, 490, 491]
theorem nwl_X6_put_r1 : nwp_X6_put_r1.map nw = wsX6_put_r1 := nw_c nwe_348 (nw_c nwe_467 (nw_c nwe_468 (nw_c nwe_469 (nw_c nwe_363 (nw_c nwe_461 (nw_c nwe_361 (nw_c nwe_362 (nw_c nwe_359 (nw_c nwe_372 (nw_c nwe_373 (nw_c nwe_374 (nw_c nwe_364 (nw_c nwe_349 (nw_c nwe_365 (nw_c nwe_470 (nw_c nwe_471 (nw_c nwe_472 (nw_c nwe_351 (nw_c nwe_166 (nw_c nwe_164 (nw_c nwe_489 (nw_c nwe_490 (nw_c nwe_491 nw_n)))))))))))))))))))))))
def nwp_X6_put_r2 : List Nat := [175, 165, 163]
theorem nwl_X6_put_r2 : nwp_X6_put_r2.map nw = wsX6_put_r2 := nw_c nwe_175 (nw_c nwe_165 (nw_c nwe_163 nw_n))
def nwp_X6_put : List Nat := 492 :: ((((nwp_X6_put_r1 ++ nwp_X6_put_r2) ++ nwp_X60) ++ nwp_X20))
theorem nwl_X6_put : nwp_X6_put.map nw = wsX6_put := nw_c nwe_492 (nw_a (nw_a (nw_a (nwl_X6_put_r1) (nwl_X6_put_r2)) (nwl_X60)) (nwl_X20))
def nwp_X6_move_r1 : List Nat := [348, 493, 494, 442, 99, 100, 101, 468, 469, 363, 461, 361, 362, 359, 372, 373, 374, 364, 349, 365, 470, 471, 472, 351]
theorem nwl_X6_move_r1 : nwp_X6_move_r1.map nw = wsX6_move_r1 := nw_c nwe_348 (nw_c nwe_493 (nw_c nwe_494 (nw_c nwe_442 (nw_c nwe_99 (nw_c nwe_100 (nw_c nwe_101 (nw_c nwe_468 (nw_c nwe_469 (nw_c nwe_363 (nw_c nwe_461 (nw_c nwe_361 (nw_c nwe_362 (nw_c nwe_359 (nw_c nwe_372 (nw_c nwe_373 (nw_c nwe_374 (nw_c nwe_364 (nw_c nwe_349 (nw_c nwe_365 (nw_c nwe_470 (nw_c nwe_471 (nw_c nwe_472 (nw_c nwe_351 nw_n)))))))))))))))))))))))
def nwp_X6_move_r2 : List Nat := [166, 164, 495, 496, 497, 176, 165]
theorem nwl_X6_move_r2 : nwp_X6_move_r2.map nw = wsX6_move_r2 := nw_c nwe_166 (nw_c nwe_164 (nw_c nwe_495 (nw_c nwe_496 (nw_c nwe_497 (nw_c nwe_176 (nw_c nwe_165 nw_n))))))
def nwp_X6_move : List Nat := 498 :: ((((nwp_X6_move_r1 ++ nwp_X6_move_r2) ++ nwp_X60) ++ nwp_X20))
theorem nwl_X6_move : nwp_X6_move.map nw = wsX6_move := nw_c nwe_498 (nw_a (nw_a (nw_a (nwl_X6_move_r1) (nwl_X6_move_r2)) (nwl_X60)) (nwl_X20))
def nwp_X6_unders_r1 : List Nat := [348, 467, 499, 96, 79, 97, 329, 369, 468, 469, 363, 461, 361, 362, 359, 372, 373, 374, 364, 349, 365, 470, 471, 472]
theorem nwl_X6_unders_r1 : nwp_X6_unders_r1.map nw = wsX6_unders_r1 := nw_c nwe_348 (nw_c nwe_467 (nw_c nwe_499 (nw_c nwe_96 (nw_c nwe_79 (nw_c nwe_97 (nw_c nwe_329 (nw_c nwe_369 (nw_c nwe_468 (nw_c nwe_469 (nw_c nwe_363 (nw_c nwe_461 (nw_c nwe_361 (nw_c nwe_362 (nw_c nwe_359 (nw_c nwe_372 (nw_c nwe_373 (nw_c nwe_374 (nw_c nwe_364 (nw_c nwe_349 (nw_c nwe_365 (nw_c nwe_470 (nw_c nwe_471 (nw_c nwe_472 nw_n)))))))))))))))))))))))
def nwp_X6_unders_r2 : List Nat := [351, 166, 164, 500, 501, 502, 174, 165, 163]
theorem nwl_X6_unders_r2 : nwp_X6_unders_r2.map nw = wsX6_unders_r2 := nw_c nwe_351 (nw_c nwe_166 (nw_c nwe_164 (nw_c nwe_500 (nw_c nwe_501 (nw_c nwe_502 (nw_c nwe_174 (nw_c nwe_165 (nw_c nwe_163 nw_n))))))))
def nwp_X6_unders : List Nat := 503 :: (((((nwp_X6_unders_r1 ++ nwp_X6_unders_r2) ++ nwp_X60) ++ nwp_X20) ++ nwp_X50))
theorem nwl_X6_unders : nwp_X6_unders.map nw = wsX6_unders := nw_c nwe_503 (nw_a (nw_a (nw_a (nw_a (nwl_X6_unders_r1) (nwl_X6_unders_r2)) (nwl_X60)) (nwl_X20)) (nwl_X50))
def nwp_X6_judge_r1 : List Nat := [348, 337, 329, 467, 401, 468, 469, 363, 461, 361, 362, 359, 372, 373, 374, 364, 349, 365, 470, 471, 472, 351, 166, 164]
theorem nwl_X6_judge_r1 : nwp_X6_judge_r1.map nw = wsX6_judge_r1 := nw_c nwe_348 (nw_c nwe_337 (nw_c nwe_329 (nw_c nwe_467 (nw_c nwe_401 (nw_c nwe_468 (nw_c nwe_469 (nw_c nwe_363 (nw_c nwe_461 (nw_c nwe_361 (nw_c nwe_362 (nw_c nwe_359 (nw_c nwe_372 (nw_c nwe_373 (nw_c nwe_374 (nw_c nwe_364 (nw_c nwe_349 (nw_c nwe_365 (nw_c nwe_470 (nw_c nwe_471 (nw_c nwe_472 (nw_c nwe_351 (nw_c nwe_166 (nw_c nwe_164 nw_n)))))))))))))))))))))))
def nwp_X6_judge_r2 : List Nat := [430, 431, 432, 259, 260, 230, 253, 99, 100, 101, 232, 233, 234, 235, 236, 237, 240, 254, 241, 242, 244, 245, 246, 255]
theorem nwl_X6_judge_r2 : nwp_X6_judge_r2.map nw = wsX6_judge_r2 := nw_c nwe_430 (nw_c nwe_431 (nw_c nwe_432 (nw_c nwe_259 (nw_c nwe_260 (nw_c nwe_230 (nw_c nwe_253 (nw_c nwe_99 (nw_c nwe_100 (nw_c nwe_101 (nw_c nwe_232 (nw_c nwe_233 (nw_c nwe_234 (nw_c nwe_235 (nw_c nwe_236 (nw_c nwe_237 (nw_c nwe_240 (nw_c nwe_254 (nw_c nwe_241 (nw_c nwe_242 (nw_c nwe_244 (nw_c nwe_245 (nw_c nwe_246 (nw_c nwe_255 nw_n)))))))))))))))))))))))
def nwp_X6_judge_r3 : List Nat := [158, 159, 87, 94, 76, 82, 95, 96, 79, 97, 98, 256, 257, 258, 252, 231, 247, 243, 500, 501, 502, 174, 165, 163]
theorem nwl_X6_judge_r3 : nwp_X6_judge_r3.map nw = wsX6_judge_r3 := nw_c nwe_158 (nw_c nwe_159 (nw_c nwe_87 (nw_c nwe_94 (nw_c nwe_76 (nw_c nwe_82 (nw_c nwe_95 (nw_c nwe_96 (nw_c nwe_79 (nw_c nwe_97 (nw_c nwe_98 (nw_c nwe_256 (nw_c nwe_257 (nw_c nwe_258 (nw_c nwe_252 (nw_c nwe_231 (nw_c nwe_247 (nw_c nwe_243 (nw_c nwe_500 (nw_c nwe_501 (nw_c nwe_502 (nw_c nwe_174 (nw_c nwe_165 (nw_c nwe_163 nw_n)))))))))))))))))))))))
def nwp_X6_judge_r4 : List Nat := [426, 323, 324, 321, 306, 307, 308, 269, 309, 310, 311, 284, 263, 281, 282, 283, 280, 274, 275, 276, 192, 184, 181, 185]
theorem nwl_X6_judge_r4 : nwp_X6_judge_r4.map nw = wsX6_judge_r4 := nw_c nwe_426 (nw_c nwe_323 (nw_c nwe_324 (nw_c nwe_321 (nw_c nwe_306 (nw_c nwe_307 (nw_c nwe_308 (nw_c nwe_269 (nw_c nwe_309 (nw_c nwe_310 (nw_c nwe_311 (nw_c nwe_284 (nw_c nwe_263 (nw_c nwe_281 (nw_c nwe_282 (nw_c nwe_283 (nw_c nwe_280 (nw_c nwe_274 (nw_c nwe_275 (nw_c nwe_276 (nw_c nwe_192 (nw_c nwe_184 (nw_c nwe_181 (nw_c nwe_185 nw_n)))))))))))))))))))))))
def nwp_X6_judge_r5 : List Nat := [277, 278, 279, 188, 182, 189, 106, 107, 102, 190, 191, 186, 193, 194, 187, 312, 313, 314, 295, 248, 250, 172, 173, 167]
theorem nwl_X6_judge_r5 : nwp_X6_judge_r5.map nw = wsX6_judge_r5 := nw_c nwe_277 (nw_c nwe_278 (nw_c nwe_279 (nw_c nwe_188 (nw_c nwe_182 (nw_c nwe_189 (nw_c nwe_106 (nw_c nwe_107 (nw_c nwe_102 (nw_c nwe_190 (nw_c nwe_191 (nw_c nwe_186 (nw_c nwe_193 (nw_c nwe_194 (nw_c nwe_187 (nw_c nwe_312 (nw_c nwe_313 (nw_c nwe_314 (nw_c nwe_295 (nw_c nwe_248 (nw_c nwe_250 (nw_c nwe_172 (nw_c nwe_173 (nw_c nwe_167 nw_n)))))))))))))))))))))))
def nwp_X6_judge_r6 : List Nat := [290, 291, 285, 292, 293, 294, 286, 287, 288, 289, 315, 316, 317, 298, 297, 299, 300, 301, 296, 318, 319, 320, 305, 303]
theorem nwl_X6_judge_r6 : nwp_X6_judge_r6.map nw = wsX6_judge_r6 := nw_c nwe_290 (nw_c nwe_291 (nw_c nwe_285 (nw_c nwe_292 (nw_c nwe_293 (nw_c nwe_294 (nw_c nwe_286 (nw_c nwe_287 (nw_c nwe_288 (nw_c nwe_289 (nw_c nwe_315 (nw_c nwe_316 (nw_c nwe_317 (nw_c nwe_298 (nw_c nwe_297 (nw_c nwe_299 (nw_c nwe_300 (nw_c nwe_301 (nw_c nwe_296 (nw_c nwe_318 (nw_c nwe_319 (nw_c nwe_320 (nw_c nwe_305 (nw_c nwe_303 nw_n)))))))))))))))))))))))
def nwp_X6_judge_r7 : List Nat := [304, 302, 264, 78, 80]
theorem nwl_X6_judge_r7 : nwp_X6_judge_r7.map nw = wsX6_judge_r7 := nw_c nwe_304 (nw_c nwe_302 (nw_c nwe_264 (nw_c nwe_78 (nw_c nwe_80 nw_n))))
def nwp_X6_judge : List Nat := 504 :: (((((((nwp_X6_judge_r1 ++ (nwp_X6_judge_r2 ++ (nwp_X6_judge_r3 ++ (nwp_X6_judge_r4 ++ (nwp_X6_judge_r5 ++ (nwp_X6_judge_r6 ++ nwp_X6_judge_r7)))))) ++ nwp_X60) ++ nwp_X20) ++ nwp_X50) ++ nwp_X30) ++ nwp_X10))
theorem nwl_X6_judge : nwp_X6_judge.map nw = wsX6_judge := nw_c nwe_504 (nw_a (nw_a (nw_a (nw_a (nw_a (nw_a (nwl_X6_judge_r1) (nw_a (nwl_X6_judge_r2) (nw_a (nwl_X6_judge_r3) (nw_a (nwl_X6_judge_r4) (nw_a (nwl_X6_judge_r5) (nw_a (nwl_X6_judge_r6) (nwl_X6_judge_r7))))))) (nwl_X60)) (nwl_X20)) (nwl_X50)) (nwl_X30)) (nwl_X10))
def nwp_X6_image_r1 : List Nat := [333, 329, 334, 331, 335, 332, 336, 430, 431, 432, 259, 260, 230, 253, 99, 100, 101, 232, 233, 234, 235, 236, 237, 240]
theorem nwl_X6_image_r1 : nwp_X6_image_r1.map nw = wsX6_image_r1 := nw_c nwe_333 (nw_c nwe_329 (nw_c nwe_334 (nw_c nwe_331 (nw_c nwe_335 (nw_c nwe_332 (nw_c nwe_336 (nw_c nwe_430 (nw_c nwe_431 (nw_c nwe_432 (nw_c nwe_259 (nw_c nwe_260 (nw_c nwe_230 (nw_c nwe_253 (nw_c nwe_99 (nw_c nwe_100 (nw_c nwe_101 (nw_c nwe_232 (nw_c nwe_233 (nw_c nwe_234 (nw_c nwe_235 (nw_c nwe_236 (nw_c nwe_237 (nw_c nwe_240 nw_n)))))))))))))))))))))))
def nwp_X6_image_r2 : List Nat := [254, 241, 242, 244, 245, 246, 255, 158, 159, 87, 94, 76, 82, 95, 96, 79, 97, 98, 256, 257, 258, 252, 231, 247]
theorem nwl_X6_image_r2 : nwp_X6_image_r2.map nw = wsX6_image_r2 := nw_c nwe_254 (nw_c nwe_241 (nw_c nwe_242 (nw_c nwe_244 (nw_c nwe_245 (nw_c nwe_246 (nw_c nwe_255 (nw_c nwe_158 (nw_c nwe_159 (nw_c nwe_87 (nw_c nwe_94 (nw_c nwe_76 (nw_c nwe_82 (nw_c nwe_95 (nw_c nwe_96 (nw_c nwe_79 (nw_c nwe_97 (nw_c nwe_98 (nw_c nwe_256 (nw_c nwe_257 (nw_c nwe_258 (nw_c nwe_252 (nw_c nwe_231 (nw_c nwe_247 nw_n)))))))))))))))))))))))
def nwp_X6_image_r3 : List Nat := [243, 414]
theorem nwl_X6_image_r3 : nwp_X6_image_r3.map nw = wsX6_image_r3 := nw_c nwe_243 (nw_c nwe_414 nw_n)
def nwp_X6_image : List Nat := 505 :: ((((((nwp_X6_image_r1 ++ (nwp_X6_image_r2 ++ nwp_X6_image_r3)) ++ nwp_X60) ++ nwp_X50) ++ nwp_X30) ++ nwp_X10))
theorem nwl_X6_image : nwp_X6_image.map nw = wsX6_image := nw_c nwe_505 (nw_a (nw_a (nw_a (nw_a (nw_a (nwl_X6_image_r1) (nw_a (nwl_X6_image_r2) (nwl_X6_image_r3))) (nwl_X60)) (nwl_X50)) (nwl_X30)) (nwl_X10))
def nwp_X6_restore_r1 : List Nat := [336, 329, 333, 331, 334, 332, 335, 418, 372, 373, 374, 363, 364, 349, 365, 430, 431, 432, 259, 260, 230, 253, 99, 100]
theorem nwl_X6_restore_r1 : nwp_X6_restore_r1.map nw = wsX6_restore_r1 := nw_c nwe_336 (nw_c nwe_329 (nw_c nwe_333 (nw_c nwe_331 (nw_c nwe_334 (nw_c nwe_332 (nw_c nwe_335 (nw_c nwe_418 (nw_c nwe_372 (nw_c nwe_373 (nw_c nwe_374 (nw_c nwe_363 (nw_c nwe_364 (nw_c nwe_349 (nw_c nwe_365 (nw_c nwe_430 (nw_c nwe_431 (nw_c nwe_432 (nw_c nwe_259 (nw_c nwe_260 (nw_c nwe_230 (nw_c nwe_253 (nw_c nwe_99 (nw_c nwe_100 nw_n)))))))))))))))))))))))
def nwp_X6_restore_r2 : List Nat := [101, 232, 233, 234, 235, 236, 237, 240, 254, 241, 242, 244, 245, 246, 255, 158, 159, 87, 94, 76, 82, 95, 96, 79]
theorem nwl_X6_restore_r2 : nwp_X6_restore_r2.map nw = wsX6_restore_r2 := nw_c nwe_101 (nw_c nwe_232 (nw_c nwe_233 (nw_c nwe_234 (nw_c nwe_235 (nw_c nwe_236 (nw_c nwe_237 (nw_c nwe_240 (nw_c nwe_254 (nw_c nwe_241 (nw_c nwe_242 (nw_c nwe_244 (nw_c nwe_245 (nw_c nwe_246 (nw_c nwe_255 (nw_c nwe_158 (nw_c nwe_159 (nw_c nwe_87 (nw_c nwe_94 (nw_c nwe_76 (nw_c nwe_82 (nw_c nwe_95 (nw_c nwe_96 (nw_c nwe_79 nw_n)))))))))))))))))))))))
def nwp_X6_restore_r3 : List Nat := [97, 98, 256, 257, 258, 252, 231, 247, 243, 414]
theorem nwl_X6_restore_r3 : nwp_X6_restore_r3.map nw = wsX6_restore_r3 := nw_c nwe_97 (nw_c nwe_98 (nw_c nwe_256 (nw_c nwe_257 (nw_c nwe_258 (nw_c nwe_252 (nw_c nwe_231 (nw_c nwe_247 (nw_c nwe_243 (nw_c nwe_414 nw_n)))))))))
def nwp_X6_restore : List Nat := 506 :: ((((((nwp_X6_restore_r1 ++ (nwp_X6_restore_r2 ++ nwp_X6_restore_r3)) ++ nwp_X60) ++ nwp_X50) ++ nwp_X30) ++ nwp_X10))
theorem nwl_X6_restore : nwp_X6_restore.map nw = wsX6_restore := nw_c nwe_506 (nw_a (nw_a (nw_a (nw_a (nw_a (nwl_X6_restore_r1) (nw_a (nwl_X6_restore_r2) (nwl_X6_restore_r3))) (nwl_X60)) (nwl_X50)) (nwl_X30)) (nwl_X10))
def nwp_X6_tell : List Nat := 507 :: ((([332, 404, 372, 373, 374, 363, 364, 349, 365, 405, 116, 117, 87, 108, 76, 82] ++ nwp_X60) ++ nwp_X10))
theorem nwl_X6_tell : nwp_X6_tell.map nw = wsX6_tell := nw_c nwe_507 (nw_a (nw_a (nw_c nwe_332 (nw_c nwe_404 (nw_c nwe_372 (nw_c nwe_373 (nw_c nwe_374 (nw_c nwe_363 (nw_c nwe_364 (nw_c nwe_349 (nw_c nwe_365 (nw_c nwe_405 (nw_c nwe_116 (nw_c nwe_117 (nw_c nwe_87 (nw_c nwe_108 (nw_c nwe_76 (nw_c nwe_82 nw_n)))))))))))))))) (nwl_X60)) (nwl_X10))
def nwp_X6_check_r1 : List Nat := [332, 404, 337, 329, 508, 430, 431, 432, 259, 260, 230, 253, 99, 100, 101, 232, 233, 234, 235, 236, 237, 240, 254, 241]
theorem nwl_X6_check_r1 : nwp_X6_check_r1.map nw = wsX6_check_r1 := nw_c nwe_332 (nw_c nwe_404 (nw_c nwe_337 (nw_c nwe_329 (nw_c nwe_508 (nw_c nwe_430 (nw_c nwe_431 (nw_c nwe_432 (nw_c nwe_259 (nw_c nwe_260 (nw_c nwe_230 (nw_c nwe_253 (nw_c nwe_99 (nw_c nwe_100 (nw_c nwe_101 (nw_c nwe_232 (nw_c nwe_233 (nw_c nwe_234 (nw_c nwe_235 (nw_c nwe_236 (nw_c nwe_237 (nw_c nwe_240 (nw_c nwe_254 (nw_c nwe_241 nw_n)))))))))))))))))))))))
def nwp_X6_check_r2 : List Nat := [242, 244, 245, 246, 255, 158, 159, 87, 94, 76, 82, 95, 96, 79, 97, 98, 256, 257, 258, 252, 231, 247, 243, 426]
theorem nwl_X6_check_r2 : nwp_X6_check_r2.map nw = wsX6_check_r2 := nw_c nwe_242 (nw_c nwe_244 (nw_c nwe_245 (nw_c nwe_246 (nw_c nwe_255 (nw_c nwe_158 (nw_c nwe_159 (nw_c nwe_87 (nw_c nwe_94 (nw_c nwe_76 (nw_c nwe_82 (nw_c nwe_95 (nw_c nwe_96 (nw_c nwe_79 (nw_c nwe_97 (nw_c nwe_98 (nw_c nwe_256 (nw_c nwe_257 (nw_c nwe_258 (nw_c nwe_252 (nw_c nwe_231 (nw_c nwe_247 (nw_c nwe_243 (nw_c nwe_426 nw_n)))))))))))))))))))))))
def nwp_X6_check_r3 : List Nat := [323, 324, 321, 306, 307, 308, 269, 309, 310, 311, 284, 263, 281, 282, 283, 280, 274, 275, 276, 192, 184, 181, 185, 277]
theorem nwl_X6_check_r3 : nwp_X6_check_r3.map nw = wsX6_check_r3 := nw_c nwe_323 (nw_c nwe_324 (nw_c nwe_321 (nw_c nwe_306 (nw_c nwe_307 (nw_c nwe_308 (nw_c nwe_269 (nw_c nwe_309 (nw_c nwe_310 (nw_c nwe_311 (nw_c nwe_284 (nw_c nwe_263 (nw_c nwe_281 (nw_c nwe_282 (nw_c nwe_283 (nw_c nwe_280 (nw_c nwe_274 (nw_c nwe_275 (nw_c nwe_276 (nw_c nwe_192 (nw_c nwe_184 (nw_c nwe_181 (nw_c nwe_185 (nw_c nwe_277 nw_n)))))))))))))))))))))))
def nwp_X6_check_r4 : List Nat := [278, 279, 188, 182, 189, 106, 107, 102, 190, 191, 186, 193, 194, 187, 312, 313, 314, 295, 248, 250, 172, 173, 167, 290]
theorem nwl_X6_check_r4 : nwp_X6_check_r4.map nw = wsX6_check_r4 := nw_c nwe_278 (nw_c nwe_279 (nw_c nwe_188 (nw_c nwe_182 (nw_c nwe_189 (nw_c nwe_106 (nw_c nwe_107 (nw_c nwe_102 (nw_c nwe_190 (nw_c nwe_191 (nw_c nwe_186 (nw_c nwe_193 (nw_c nwe_194 (nw_c nwe_187 (nw_c nwe_312 (nw_c nwe_313 (nw_c nwe_314 (nw_c nwe_295 (nw_c nwe_248 (nw_c nwe_250 (nw_c nwe_172 (nw_c nwe_173 (nw_c nwe_167 (nw_c nwe_290 nw_n)))))))))))))))))))))))
def nwp_X6_check_r5 : List Nat := [291, 285, 292, 293, 294, 286, 287, 288, 289, 315, 316, 317, 298, 297, 299, 300, 301, 296, 318, 319, 320, 305, 303, 304]
theorem nwl_X6_check_r5 : nwp_X6_check_r5.map nw = wsX6_check_r5 := nw_c nwe_291 (nw_c nwe_285 (nw_c nwe_292 (nw_c nwe_293 (nw_c nwe_294 (nw_c nwe_286 (nw_c nwe_287 (nw_c nwe_288 (nw_c nwe_289 (nw_c nwe_315 (nw_c nwe_316 (nw_c nwe_317 (nw_c nwe_298 (nw_c nwe_297 (nw_c nwe_299 (nw_c nwe_300 (nw_c nwe_301 (nw_c nwe_296 (nw_c nwe_318 (nw_c nwe_319 (nw_c nwe_320 (nw_c nwe_305 (nw_c nwe_303 (nw_c nwe_304 nw_n)))))))))))))))))))))))
def nwp_X6_check_r6 : List Nat := [302, 264, 78, 80]
theorem nwl_X6_check_r6 : nwp_X6_check_r6.map nw = wsX6_check_r6 := nw_c nwe_302 (nw_c nwe_264 (nw_c nwe_78 (nw_c nwe_80 nw_n)))
def nwp_X6_check : List Nat := 509 :: ((((((nwp_X6_check_r1 ++ (nwp_X6_check_r2 ++ (nwp_X6_check_r3 ++ (nwp_X6_check_r4 ++ (nwp_X6_check_r5 ++ nwp_X6_check_r6))))) ++ nwp_X60) ++ nwp_X10) ++ nwp_X50) ++ nwp_X30))
theorem nwl_X6_check : nwp_X6_check.map nw = wsX6_check := nw_c nwe_509 (nw_a (nw_a (nw_a (nw_a (nw_a (nwl_X6_check_r1) (nw_a (nwl_X6_check_r2) (nw_a (nwl_X6_check_r3) (nw_a (nwl_X6_check_r4) (nw_a (nwl_X6_check_r5) (nwl_X6_check_r6)))))) (nwl_X60)) (nwl_X10)) (nwl_X50)) (nwl_X30))
def nwp_X6_count_r1 : List Nat := [329, 418, 401, 402, 380, 369, 452, 510, 331, 404, 332, 346, 483, 429, 444, 307, 308, 259, 269, 245, 236, 435, 436, 363]
theorem nwl_X6_count_r1 : nwp_X6_count_r1.map nw = wsX6_count_r1 := nw_c nwe_329 (nw_c nwe_418 (nw_c nwe_401 (nw_c nwe_402 (nw_c nwe_380 (nw_c nwe_369 (nw_c nwe_452 (nw_c nwe_510 (nw_c nwe_331 (nw_c nwe_404 (nw_c nwe_332 (nw_c nwe_346 (nw_c nwe_483 (nw_c nwe_429 (nw_c nwe_444 (nw_c nwe_307 (nw_c nwe_308 (nw_c nwe_259 (nw_c nwe_269 (nw_c nwe_245 (nw_c nwe_236 (nw_c nwe_435 (nw_c nwe_436 (nw_c nwe_363 nw_n)))))))))))))))))))))))
def nwp_X6_count_r2 : List Nat := [434, 372, 373, 374, 364, 349, 365]
theorem nwl_X6_count_r2 : nwp_X6_count_r2.map nw = wsX6_count_r2 := nw_c nwe_434 (nw_c nwe_372 (nw_c nwe_373 (nw_c nwe_374 (nw_c nwe_364 (nw_c nwe_349 (nw_c nwe_365 nw_n))))))
def nwp_X6_count : List Nat := 511 :: ((((((nwp_X6_count_r1 ++ nwp_X6_count_r2) ++ nwp_X60) ++ nwp_X50) ++ nwp_X10) ++ nwp_X40))
theorem nwl_X6_count : nwp_X6_count.map nw = wsX6_count := nw_c nwe_511 (nw_a (nw_a (nw_a (nw_a (nw_a (nwl_X6_count_r1) (nwl_X6_count_r2)) (nwl_X60)) (nwl_X50)) (nwl_X10)) (nwl_X40))
def nwp_X6_told : List Nat := 512 :: (([349, 361, 362, 363, 359, 372, 373, 374, 364, 365] ++ nwp_X60))
theorem nwl_X6_told : nwp_X6_told.map nw = wsX6_told := nw_c nwe_512 (nw_a (nw_c nwe_349 (nw_c nwe_361 (nw_c nwe_362 (nw_c nwe_363 (nw_c nwe_359 (nw_c nwe_372 (nw_c nwe_373 (nw_c nwe_374 (nw_c nwe_364 (nw_c nwe_365 nw_n)))))))))) (nwl_X60))
def nwp_X7_lays1 : List Nat := 513 :: (([514] ++ nwp_X70))
theorem nwl_X7_lays1 : nwp_X7_lays1.map nw = wsX7_lays1 := nw_c nwe_513 (nw_a (nw_c nwe_514 nw_n) (nwl_X70))
def nwp_X7_init_r1 : List Nat := [515, 74, 75, 81, 514, 516, 517, 518, 519, 520, 521, 522, 523, 524, 525, 526, 527, 528, 529, 530, 531, 532, 533, 534]
theorem nwl_X7_init_r1 : nwp_X7_init_r1.map nw = wsX7_init_r1 := nw_c nwe_515 (nw_c nwe_74 (nw_c nwe_75 (nw_c nwe_81 (nw_c nwe_514 (nw_c nwe_516 (nw_c nwe_517 (nw_c nwe_518 (nw_c nwe_519 (nw_c nwe_520 (nw_c nwe_521 (nw_c nwe_522 (nw_c nwe_523 (nw_c nwe_524 (nw_c nwe_525 (nw_c nwe_526 (nw_c nwe_527 (nw_c nwe_528 (nw_c nwe_529 (nw_c nwe_530 (nw_c nwe_531 (nw_c nwe_532 (nw_c nwe_533 (nw_c nwe_534 nw_n)))))))))))))))))))))))
def nwp_X7_init_r2 : List Nat := [513]
theorem nwl_X7_init_r2 : nwp_X7_init_r2.map nw = wsX7_init_r2 := nw_c nwe_513 nw_n
def nwp_X7_init : List Nat := 535 :: (((nwp_X7_init_r1 ++ nwp_X7_init_r2) ++ nwp_X70))
theorem nwl_X7_init : nwp_X7_init.map nw = wsX7_init := nw_c nwe_535 (nw_a (nw_a (nwl_X7_init_r1) (nwl_X7_init_r2)) (nwl_X70))
def nwp_X7_error : List Nat := 536 :: (([518, 537] ++ nwp_X70))
theorem nwl_X7_error : nwp_X7_error.map nw = wsX7_error := nw_c nwe_536 (nw_a (nw_c nwe_518 (nw_c nwe_537 nw_n)) (nwl_X70))
def nwp_X7_in : List Nat := 538 :: ([])
theorem nwl_X7_in : nwp_X7_in.map nw = wsX7_in := nw_c nwe_538 (nw_n)
def nwp_X7_held : List Nat := 539 :: ([])
theorem nwl_X7_held : nwp_X7_held.map nw = wsX7_held := nw_c nwe_539 (nw_n)
def nwp_X7_carry : List Nat := 540 :: ([])
theorem nwl_X7_carry : nwp_X7_carry.map nw = wsX7_carry := nw_c nwe_540 (nw_n)
def nwp_X7_layDown : List Nat := 541 :: (([514, 517, 542, 543, 534, 540] ++ nwp_X70))
theorem nwl_X7_layDown : nwp_X7_layDown.map nw = wsX7_layDown := nw_c nwe_541 (nw_a (nw_c nwe_514 (nw_c nwe_517 (nw_c nwe_542 (nw_c nwe_543 (nw_c nwe_534 (nw_c nwe_540 nw_n)))))) (nwl_X70))
def nwp_X7_layBack : List Nat := 544 :: (([517, 514, 542, 543, 534, 540] ++ nwp_X70))
theorem nwl_X7_layBack : nwp_X7_layBack.map nw = wsX7_layBack := nw_c nwe_544 (nw_a (nw_c nwe_517 (nw_c nwe_514 (nw_c nwe_542 (nw_c nwe_543 (nw_c nwe_534 (nw_c nwe_540 nw_n)))))) (nwl_X70))
def nwp_X7_isOak : List Nat := 545 :: ([546, 547, 534, 538])
theorem nwl_X7_isOak : nwp_X7_isOak.map nw = wsX7_isOak := nw_c nwe_545 (nw_c nwe_546 (nw_c nwe_547 (nw_c nwe_534 (nw_c nwe_538 nw_n))))
def nwp_X7_isFarmer : List Nat := 548 :: ([546, 547, 534, 538])
theorem nwl_X7_isFarmer : nwp_X7_isFarmer.map nw = wsX7_isFarmer := nw_c nwe_548 (nw_c nwe_546 (nw_c nwe_547 (nw_c nwe_534 (nw_c nwe_538 nw_n))))
def nwp_X7_its : List Nat := 549 :: (([514] ++ nwp_X70))
theorem nwl_X7_its : nwp_X7_its.map nw = wsX7_its := nw_c nwe_549 (nw_a (nw_c nwe_514 nw_n) (nwl_X70))
def nwp_X7_change1 : List Nat := 550 :: (([514] ++ nwp_X70))
theorem nwl_X7_change1 : nwp_X7_change1.map nw = wsX7_change1 := nw_c nwe_550 (nw_a (nw_c nwe_514 nw_n) (nwl_X70))
def nwp_X7_allOf : List Nat := 551 :: (([552, 553, 554, 534, 549, 514] ++ nwp_X70))
theorem nwl_X7_allOf : nwp_X7_allOf.map nw = wsX7_allOf := nw_c nwe_551 (nw_a (nw_c nwe_552 (nw_c nwe_553 (nw_c nwe_554 (nw_c nwe_534 (nw_c nwe_549 (nw_c nwe_514 nw_n)))))) (nwl_X70))
def nwp_X7_allUnder : List Nat := 555 :: (([514] ++ nwp_X70))
theorem nwl_X7_allUnder : nwp_X7_allUnder.map nw = wsX7_allUnder := nw_c nwe_555 (nw_a (nw_c nwe_514 nw_n) (nwl_X70))
def nwp_X7_feed : List Nat := 556 :: (([514, 557, 546, 547, 534, 538, 558, 559, 560, 536, 518, 537] ++ nwp_X70))
theorem nwl_X7_feed : nwp_X7_feed.map nw = wsX7_feed := nw_c nwe_556 (nw_a (nw_c nwe_514 (nw_c nwe_557 (nw_c nwe_546 (nw_c nwe_547 (nw_c nwe_534 (nw_c nwe_538 (nw_c nwe_558 (nw_c nwe_559 (nw_c nwe_560 (nw_c nwe_536 (nw_c nwe_518 (nw_c nwe_537 nw_n)))))))))))) (nwl_X70))
def nwp_X7_look : List Nat := 561 :: (([562, 514] ++ nwp_X70))
theorem nwl_X7_look : nwp_X7_look.map nw = wsX7_look := nw_c nwe_561 (nw_a (nw_c nwe_562 (nw_c nwe_514 nw_n)) (nwl_X70))
def nwp_X7_isName : List Nat := 563 :: (([564] ++ nwp_X70))
theorem nwl_X7_isName : nwp_X7_isName.map nw = wsX7_isName := nw_c nwe_563 (nw_a (nw_c nwe_564 nw_n) (nwl_X70))
def nwp_X7_step1 : List Nat := 565 :: (([519, 566] ++ nwp_X70))
theorem nwl_X7_step1 : nwp_X7_step1.map nw = wsX7_step1 := nw_c nwe_565 (nw_a (nw_c nwe_519 (nw_c nwe_566 nw_n)) (nwl_X70))
def nwp_X7_opens : List Nat := 567 :: (([568, 562] ++ nwp_X70))
theorem nwl_X7_opens : nwp_X7_opens.map nw = wsX7_opens := nw_c nwe_567 (nw_a (nw_c nwe_568 (nw_c nwe_562 nw_n)) (nwl_X70))
def nwp_X7_both_r1 : List Nat := [562, 569, 570, 571, 534, 572, 573, 574, 561, 514, 575, 576, 577, 565, 519, 566, 578, 579, 580, 581, 582, 568, 583, 584]
theorem nwl_X7_both_r1 : nwp_X7_both_r1.map nw = wsX7_both_r1 := nw_c nwe_562 (nw_c nwe_569 (nw_c nwe_570 (nw_c nwe_571 (nw_c nwe_534 (nw_c nwe_572 (nw_c nwe_573 (nw_c nwe_574 (nw_c nwe_561 (nw_c nwe_514 (nw_c nwe_575 (nw_c nwe_576 (nw_c nwe_577 (nw_c nwe_565 (nw_c nwe_519 (nw_c nwe_566 (nw_c nwe_578 (nw_c nwe_579 (nw_c nwe_580 (nw_c nwe_581 (nw_c nwe_582 (nw_c nwe_568 (nw_c nwe_583 (nw_c nwe_584 nw_n)))))))))))))))))))))))
def nwp_X7_both_r2 : List Nat := [585, 563, 564, 546, 547, 538, 586, 587, 588, 567, 589, 590, 591, 592, 593, 594, 595, 596, 597, 598, 599, 600, 601, 602]
theorem nwl_X7_both_r2 : nwp_X7_both_r2.map nw = wsX7_both_r2 := nw_c nwe_585 (nw_c nwe_563 (nw_c nwe_564 (nw_c nwe_546 (nw_c nwe_547 (nw_c nwe_538 (nw_c nwe_586 (nw_c nwe_587 (nw_c nwe_588 (nw_c nwe_567 (nw_c nwe_589 (nw_c nwe_590 (nw_c nwe_591 (nw_c nwe_592 (nw_c nwe_593 (nw_c nwe_594 (nw_c nwe_595 (nw_c nwe_596 (nw_c nwe_597 (nw_c nwe_598 (nw_c nwe_599 (nw_c nwe_600 (nw_c nwe_601 (nw_c nwe_602 nw_n)))))))))))))))))))))))
def nwp_X7_both_r3 : List Nat := [603]
theorem nwl_X7_both_r3 : nwp_X7_both_r3.map nw = wsX7_both_r3 := nw_c nwe_603 nw_n
def nwp_X7_both : List Nat := 604 :: (((nwp_X7_both_r1 ++ (nwp_X7_both_r2 ++ nwp_X7_both_r3)) ++ nwp_X70))
theorem nwl_X7_both : nwp_X7_both.map nw = wsX7_both := nw_c nwe_604 (nw_a (nw_a (nwl_X7_both_r1) (nw_a (nwl_X7_both_r2) (nwl_X7_both_r3))) (nwl_X70))
def nwp_X7_compared_r1 : List Nat := [562, 579, 580, 581, 534, 572, 573, 574, 561, 514, 575, 576, 577, 565, 519, 566, 604, 569, 570, 571, 582, 568, 583, 584]
theorem nwl_X7_compared_r1 : nwp_X7_compared_r1.map nw = wsX7_compared_r1 := nw_c nwe_562 (nw_c nwe_579 (nw_c nwe_580 (nw_c nwe_581 (nw_c nwe_534 (nw_c nwe_572 (nw_c nwe_573 (nw_c nwe_574 (nw_c nwe_561 (nw_c nwe_514 (nw_c nwe_575 (nw_c nwe_576 (nw_c nwe_577 (nw_c nwe_565 (nw_c nwe_519 (nw_c nwe_566 (nw_c nwe_604 (nw_c nwe_569 (nw_c nwe_570 (nw_c nwe_571 (nw_c nwe_582 (nw_c nwe_568 (nw_c nwe_583 (nw_c nwe_584 nw_n)))))))))))))))))))))))
def nwp_X7_compared_r2 : List Nat := [585, 563, 564, 546, 547, 538, 586, 587, 588, 567, 589, 590, 591, 592, 593, 594, 595, 596, 597, 598, 599, 600, 601, 602]
theorem nwl_X7_compared_r2 : nwp_X7_compared_r2.map nw = wsX7_compared_r2 := nw_c nwe_585 (nw_c nwe_563 (nw_c nwe_564 (nw_c nwe_546 (nw_c nwe_547 (nw_c nwe_538 (nw_c nwe_586 (nw_c nwe_587 (nw_c nwe_588 (nw_c nwe_567 (nw_c nwe_589 (nw_c nwe_590 (nw_c nwe_591 (nw_c nwe_592 (nw_c nwe_593 (nw_c nwe_594 (nw_c nwe_595 (nw_c nwe_596 (nw_c nwe_597 (nw_c nwe_598 (nw_c nwe_599 (nw_c nwe_600 (nw_c nwe_601 (nw_c nwe_602 nw_n)))))))))))))))))))))))
def nwp_X7_compared_r3 : List Nat := [603]
theorem nwl_X7_compared_r3 : nwp_X7_compared_r3.map nw = wsX7_compared_r3 := nw_c nwe_603 nw_n
def nwp_X7_compared : List Nat := 578 :: (((nwp_X7_compared_r1 ++ (nwp_X7_compared_r2 ++ nwp_X7_compared_r3)) ++ nwp_X70))
theorem nwl_X7_compared : nwp_X7_compared.map nw = wsX7_compared := nw_c nwe_578 (nw_a (nw_a (nwl_X7_compared_r1) (nw_a (nwl_X7_compared_r2) (nwl_X7_compared_r3))) (nwl_X70))
def nwp_X7_one_r1 : List Nat := [562, 568, 572, 573, 574, 534, 561, 514, 583, 584, 585, 563, 564, 575, 576, 577, 565, 519, 566, 546, 547, 538, 586, 587]
theorem nwl_X7_one_r1 : nwp_X7_one_r1.map nw = wsX7_one_r1 := nw_c nwe_562 (nw_c nwe_568 (nw_c nwe_572 (nw_c nwe_573 (nw_c nwe_574 (nw_c nwe_534 (nw_c nwe_561 (nw_c nwe_514 (nw_c nwe_583 (nw_c nwe_584 (nw_c nwe_585 (nw_c nwe_563 (nw_c nwe_564 (nw_c nwe_575 (nw_c nwe_576 (nw_c nwe_577 (nw_c nwe_565 (nw_c nwe_519 (nw_c nwe_566 (nw_c nwe_546 (nw_c nwe_547 (nw_c nwe_538 (nw_c nwe_586 (nw_c nwe_587 nw_n)))))))))))))))))))))))
def nwp_X7_one_r2 : List Nat := [588, 567, 589, 590, 591, 592, 593, 594, 604, 569, 570, 571, 578, 579, 580, 581, 595, 596, 597, 598, 599, 600, 601, 602]
theorem nwl_X7_one_r2 : nwp_X7_one_r2.map nw = wsX7_one_r2 := nw_c nwe_588 (nw_c nwe_567 (nw_c nwe_589 (nw_c nwe_590 (nw_c nwe_591 (nw_c nwe_592 (nw_c nwe_593 (nw_c nwe_594 (nw_c nwe_604 (nw_c nwe_569 (nw_c nwe_570 (nw_c nwe_571 (nw_c nwe_578 (nw_c nwe_579 (nw_c nwe_580 (nw_c nwe_581 (nw_c nwe_595 (nw_c nwe_596 (nw_c nwe_597 (nw_c nwe_598 (nw_c nwe_599 (nw_c nwe_600 (nw_c nwe_601 (nw_c nwe_602 nw_n)))))))))))))))))))))))
def nwp_X7_one_r3 : List Nat := [603]
theorem nwl_X7_one_r3 : nwp_X7_one_r3.map nw = wsX7_one_r3 := nw_c nwe_603 nw_n
def nwp_X7_one : List Nat := 582 :: (((nwp_X7_one_r1 ++ (nwp_X7_one_r2 ++ nwp_X7_one_r3)) ++ nwp_X70))
theorem nwl_X7_one : nwp_X7_one.map nw = wsX7_one := nw_c nwe_582 (nw_a (nw_a (nwl_X7_one_r1) (nw_a (nwl_X7_one_r2) (nwl_X7_one_r3))) (nwl_X70))
def nwp_X7_product_r1 : List Nat := [562, 589, 590, 591, 534, 572, 573, 574, 561, 514, 575, 576, 577, 565, 519, 566, 604, 569, 570, 571, 578, 579, 580, 581]
theorem nwl_X7_product_r1 : nwp_X7_product_r1.map nw = wsX7_product_r1 := nw_c nwe_562 (nw_c nwe_589 (nw_c nwe_590 (nw_c nwe_591 (nw_c nwe_534 (nw_c nwe_572 (nw_c nwe_573 (nw_c nwe_574 (nw_c nwe_561 (nw_c nwe_514 (nw_c nwe_575 (nw_c nwe_576 (nw_c nwe_577 (nw_c nwe_565 (nw_c nwe_519 (nw_c nwe_566 (nw_c nwe_604 (nw_c nwe_569 (nw_c nwe_570 (nw_c nwe_571 (nw_c nwe_578 (nw_c nwe_579 (nw_c nwe_580 (nw_c nwe_581 nw_n)))))))))))))))))))))))
def nwp_X7_product_r2 : List Nat := [582, 568, 583, 584, 585, 563, 564, 546, 547, 538, 586, 587, 588, 567, 592, 593, 594, 596, 597, 598, 599, 600, 601, 602]
theorem nwl_X7_product_r2 : nwp_X7_product_r2.map nw = wsX7_product_r2 := nw_c nwe_582 (nw_c nwe_568 (nw_c nwe_583 (nw_c nwe_584 (nw_c nwe_585 (nw_c nwe_563 (nw_c nwe_564 (nw_c nwe_546 (nw_c nwe_547 (nw_c nwe_538 (nw_c nwe_586 (nw_c nwe_587 (nw_c nwe_588 (nw_c nwe_567 (nw_c nwe_592 (nw_c nwe_593 (nw_c nwe_594 (nw_c nwe_596 (nw_c nwe_597 (nw_c nwe_598 (nw_c nwe_599 (nw_c nwe_600 (nw_c nwe_601 (nw_c nwe_602 nw_n)))))))))))))))))))))))
def nwp_X7_product_r3 : List Nat := [603]
theorem nwl_X7_product_r3 : nwp_X7_product_r3.map nw = wsX7_product_r3 := nw_c nwe_603 nw_n
def nwp_X7_product : List Nat := 595 :: (((nwp_X7_product_r1 ++ (nwp_X7_product_r2 ++ nwp_X7_product_r3)) ++ nwp_X70))
theorem nwl_X7_product : nwp_X7_product.map nw = wsX7_product := nw_c nwe_595 (nw_a (nw_a (nwl_X7_product_r1) (nw_a (nwl_X7_product_r2) (nwl_X7_product_r3))) (nwl_X70))
def nwp_X7_sum_r1 : List Nat := [562, 597, 598, 599, 534, 572, 573, 574, 561, 514, 575, 576, 577, 565, 519, 566, 604, 569, 570, 571, 578, 579, 580, 581]
theorem nwl_X7_sum_r1 : nwp_X7_sum_r1.map nw = wsX7_sum_r1 := nw_c nwe_562 (nw_c nwe_597 (nw_c nwe_598 (nw_c nwe_599 (nw_c nwe_534 (nw_c nwe_572 (nw_c nwe_573 (nw_c nwe_574 (nw_c nwe_561 (nw_c nwe_514 (nw_c nwe_575 (nw_c nwe_576 (nw_c nwe_577 (nw_c nwe_565 (nw_c nwe_519 (nw_c nwe_566 (nw_c nwe_604 (nw_c nwe_569 (nw_c nwe_570 (nw_c nwe_571 (nw_c nwe_578 (nw_c nwe_579 (nw_c nwe_580 (nw_c nwe_581 nw_n)))))))))))))))))))))))
def nwp_X7_sum_r2 : List Nat := [582, 568, 583, 584, 585, 563, 564, 546, 547, 538, 586, 587, 588, 567, 589, 590, 591, 592, 593, 594, 595, 600, 601, 602]
theorem nwl_X7_sum_r2 : nwp_X7_sum_r2.map nw = wsX7_sum_r2 := nw_c nwe_582 (nw_c nwe_568 (nw_c nwe_583 (nw_c nwe_584 (nw_c nwe_585 (nw_c nwe_563 (nw_c nwe_564 (nw_c nwe_546 (nw_c nwe_547 (nw_c nwe_538 (nw_c nwe_586 (nw_c nwe_587 (nw_c nwe_588 (nw_c nwe_567 (nw_c nwe_589 (nw_c nwe_590 (nw_c nwe_591 (nw_c nwe_592 (nw_c nwe_593 (nw_c nwe_594 (nw_c nwe_595 (nw_c nwe_600 (nw_c nwe_601 (nw_c nwe_602 nw_n)))))))))))))))))))))))
def nwp_X7_sum_r3 : List Nat := [603]
theorem nwl_X7_sum_r3 : nwp_X7_sum_r3.map nw = wsX7_sum_r3 := nw_c nwe_603 nw_n
def nwp_X7_sum : List Nat := 596 :: (((nwp_X7_sum_r1 ++ (nwp_X7_sum_r2 ++ nwp_X7_sum_r3)) ++ nwp_X70))
theorem nwl_X7_sum : nwp_X7_sum.map nw = wsX7_sum := nw_c nwe_596 (nw_a (nw_a (nwl_X7_sum_r1) (nw_a (nwl_X7_sum_r2) (nwl_X7_sum_r3))) (nwl_X70))
def nwp_X7_whole_r1 : List Nat := [562, 601, 602, 603, 534, 572, 573, 574, 561, 514, 575, 576, 577, 565, 519, 566, 604, 569, 570, 571, 578, 579, 580, 581]
theorem nwl_X7_whole_r1 : nwp_X7_whole_r1.map nw = wsX7_whole_r1 := nw_c nwe_562 (nw_c nwe_601 (nw_c nwe_602 (nw_c nwe_603 (nw_c nwe_534 (nw_c nwe_572 (nw_c nwe_573 (nw_c nwe_574 (nw_c nwe_561 (nw_c nwe_514 (nw_c nwe_575 (nw_c nwe_576 (nw_c nwe_577 (nw_c nwe_565 (nw_c nwe_519 (nw_c nwe_566 (nw_c nwe_604 (nw_c nwe_569 (nw_c nwe_570 (nw_c nwe_571 (nw_c nwe_578 (nw_c nwe_579 (nw_c nwe_580 (nw_c nwe_581 nw_n)))))))))))))))))))))))
def nwp_X7_whole_r2 : List Nat := [582, 568, 583, 584, 585, 563, 564, 546, 547, 538, 586, 587, 588, 567, 589, 590, 591, 592, 593, 594, 595, 596, 597, 598]
theorem nwl_X7_whole_r2 : nwp_X7_whole_r2.map nw = wsX7_whole_r2 := nw_c nwe_582 (nw_c nwe_568 (nw_c nwe_583 (nw_c nwe_584 (nw_c nwe_585 (nw_c nwe_563 (nw_c nwe_564 (nw_c nwe_546 (nw_c nwe_547 (nw_c nwe_538 (nw_c nwe_586 (nw_c nwe_587 (nw_c nwe_588 (nw_c nwe_567 (nw_c nwe_589 (nw_c nwe_590 (nw_c nwe_591 (nw_c nwe_592 (nw_c nwe_593 (nw_c nwe_594 (nw_c nwe_595 (nw_c nwe_596 (nw_c nwe_597 (nw_c nwe_598 nw_n)))))))))))))))))))))))
def nwp_X7_whole_r3 : List Nat := [599]
theorem nwl_X7_whole_r3 : nwp_X7_whole_r3.map nw = wsX7_whole_r3 := nw_c nwe_599 nw_n
def nwp_X7_whole : List Nat := 600 :: (((nwp_X7_whole_r1 ++ (nwp_X7_whole_r2 ++ nwp_X7_whole_r3)) ++ nwp_X70))
theorem nwl_X7_whole : nwp_X7_whole.map nw = wsX7_whole := nw_c nwe_600 (nw_a (nw_a (nwl_X7_whole_r1) (nw_a (nwl_X7_whole_r2) (nwl_X7_whole_r3))) (nwl_X70))
def nwp_X7_hasText : List Nat := 605 :: (([514] ++ nwp_X70))
theorem nwl_X7_hasText : nwp_X7_hasText.map nw = wsX7_hasText := nw_c nwe_605 (nw_a (nw_c nwe_514 nw_n) (nwl_X70))
def nwp_X7_text_r1 : List Nat := [564, 562, 568, 566, 514, 519, 546, 547, 534, 538, 558, 559, 560, 536, 518, 537, 592, 593, 594, 600, 601, 602, 603, 572]
theorem nwl_X7_text_r1 : nwp_X7_text_r1.map nw = wsX7_text_r1 := nw_c nwe_564 (nw_c nwe_562 (nw_c nwe_568 (nw_c nwe_566 (nw_c nwe_514 (nw_c nwe_519 (nw_c nwe_546 (nw_c nwe_547 (nw_c nwe_534 (nw_c nwe_538 (nw_c nwe_558 (nw_c nwe_559 (nw_c nwe_560 (nw_c nwe_536 (nw_c nwe_518 (nw_c nwe_537 (nw_c nwe_592 (nw_c nwe_593 (nw_c nwe_594 (nw_c nwe_600 (nw_c nwe_601 (nw_c nwe_602 (nw_c nwe_603 (nw_c nwe_572 nw_n)))))))))))))))))))))))
def nwp_X7_text_r2 : List Nat := [573, 574, 561, 575, 576, 577, 565, 604, 569, 570, 571, 578, 579, 580, 581, 582, 583, 584, 585, 563, 586, 587, 588, 567]
theorem nwl_X7_text_r2 : nwp_X7_text_r2.map nw = wsX7_text_r2 := nw_c nwe_573 (nw_c nwe_574 (nw_c nwe_561 (nw_c nwe_575 (nw_c nwe_576 (nw_c nwe_577 (nw_c nwe_565 (nw_c nwe_604 (nw_c nwe_569 (nw_c nwe_570 (nw_c nwe_571 (nw_c nwe_578 (nw_c nwe_579 (nw_c nwe_580 (nw_c nwe_581 (nw_c nwe_582 (nw_c nwe_583 (nw_c nwe_584 (nw_c nwe_585 (nw_c nwe_563 (nw_c nwe_586 (nw_c nwe_587 (nw_c nwe_588 (nw_c nwe_567 nw_n)))))))))))))))))))))))
def nwp_X7_text_r3 : List Nat := [589, 590, 591, 595, 596, 597, 598, 599]
theorem nwl_X7_text_r3 : nwp_X7_text_r3.map nw = wsX7_text_r3 := nw_c nwe_589 (nw_c nwe_590 (nw_c nwe_591 (nw_c nwe_595 (nw_c nwe_596 (nw_c nwe_597 (nw_c nwe_598 (nw_c nwe_599 nw_n)))))))
def nwp_X7_text : List Nat := 606 :: (((nwp_X7_text_r1 ++ (nwp_X7_text_r2 ++ nwp_X7_text_r3)) ++ nwp_X70))
theorem nwl_X7_text : nwp_X7_text.map nw = wsX7_text := nw_c nwe_606 (nw_a (nw_a (nwl_X7_text_r1) (nw_a (nwl_X7_text_r2) (nwl_X7_text_r3))) (nwl_X70))
def nwp_X7_untell : List Nat := 607 :: (([514, 546, 547, 534, 538, 558, 559, 560, 536, 518, 537, 608, 609, 610, 605] ++ nwp_X70))
theorem nwl_X7_untell : nwp_X7_untell.map nw = wsX7_untell := nw_c nwe_607 (nw_a (nw_c nwe_514 (nw_c nwe_546 (nw_c nwe_547 (nw_c nwe_534 (nw_c nwe_538 (nw_c nwe_558 (nw_c nwe_559 (nw_c nwe_560 (nw_c nwe_536 (nw_c nwe_518 (nw_c nwe_537 (nw_c nwe_608 (nw_c nwe_609 (nw_c nwe_610 (nw_c nwe_605 nw_n))))))))))))))) (nwl_X70))
def nwp_X7_joined : List Nat := 611 :: ([])
theorem nwl_X7_joined : nwp_X7_joined.map nw = wsX7_joined := nw_c nwe_611 (nw_n)
def nwp_X7_worked : List Nat := 612 :: (([514, 521, 520, 613, 614, 534, 611] ++ nwp_X70))
theorem nwl_X7_worked : nwp_X7_worked.map nw = wsX7_worked := nw_c nwe_612 (nw_a (nw_c nwe_514 (nw_c nwe_521 (nw_c nwe_520 (nw_c nwe_613 (nw_c nwe_614 (nw_c nwe_534 (nw_c nwe_611 nw_n))))))) (nwl_X70))
def nwp_X7_feedsTold : List Nat := 615 :: (([520, 514, 608, 609, 610, 534, 605, 552, 553, 554, 549, 616, 617, 618, 612, 521, 613, 614, 611] ++ nwp_X70))
theorem nwl_X7_feedsTold : nwp_X7_feedsTold.map nw = wsX7_feedsTold := nw_c nwe_615 (nw_a (nw_c nwe_520 (nw_c nwe_514 (nw_c nwe_608 (nw_c nwe_609 (nw_c nwe_610 (nw_c nwe_534 (nw_c nwe_605 (nw_c nwe_552 (nw_c nwe_553 (nw_c nwe_554 (nw_c nwe_549 (nw_c nwe_616 (nw_c nwe_617 (nw_c nwe_618 (nw_c nwe_612 (nw_c nwe_521 (nw_c nwe_613 (nw_c nwe_614 (nw_c nwe_611 nw_n))))))))))))))))))) (nwl_X70))
def nwp_X7_feeds_r1 : List Nat := [552, 553, 554, 534, 549, 514, 619, 620, 621, 615, 520, 608, 609, 610, 605, 616, 617, 618, 612, 521, 613, 614, 611, 622]
theorem nwl_X7_feeds_r1 : nwp_X7_feeds_r1.map nw = wsX7_feeds_r1 := nw_c nwe_552 (nw_c nwe_553 (nw_c nwe_554 (nw_c nwe_534 (nw_c nwe_549 (nw_c nwe_514 (nw_c nwe_619 (nw_c nwe_620 (nw_c nwe_621 (nw_c nwe_615 (nw_c nwe_520 (nw_c nwe_608 (nw_c nwe_609 (nw_c nwe_610 (nw_c nwe_605 (nw_c nwe_616 (nw_c nwe_617 (nw_c nwe_618 (nw_c nwe_612 (nw_c nwe_521 (nw_c nwe_613 (nw_c nwe_614 (nw_c nwe_611 (nw_c nwe_622 nw_n)))))))))))))))))))))))
def nwp_X7_feeds_r2 : List Nat := [623, 539]
theorem nwl_X7_feeds_r2 : nwp_X7_feeds_r2.map nw = wsX7_feeds_r2 := nw_c nwe_623 (nw_c nwe_539 nw_n)
def nwp_X7_feeds : List Nat := 624 :: (((nwp_X7_feeds_r1 ++ nwp_X7_feeds_r2) ++ nwp_X70))
theorem nwl_X7_feeds : nwp_X7_feeds.map nw = wsX7_feeds := nw_c nwe_624 (nw_a (nw_a (nwl_X7_feeds_r1) (nwl_X7_feeds_r2)) (nwl_X70))
def nwp_X7_hides : List Nat := 625 :: (([552, 553, 554, 534, 549, 514] ++ nwp_X70))
theorem nwl_X7_hides : nwp_X7_hides.map nw = wsX7_hides := nw_c nwe_625 (nw_a (nw_c nwe_552 (nw_c nwe_553 (nw_c nwe_554 (nw_c nwe_534 (nw_c nwe_549 (nw_c nwe_514 nw_n)))))) (nwl_X70))
def nwp_X7_smell : List Nat := 626 :: (([514, 520, 608, 609, 610, 534, 605, 616, 617, 618, 612, 521, 613, 614, 611] ++ nwp_X70))
theorem nwl_X7_smell : nwp_X7_smell.map nw = wsX7_smell := nw_c nwe_626 (nw_a (nw_c nwe_514 (nw_c nwe_520 (nw_c nwe_608 (nw_c nwe_609 (nw_c nwe_610 (nw_c nwe_534 (nw_c nwe_605 (nw_c nwe_616 (nw_c nwe_617 (nw_c nwe_618 (nw_c nwe_612 (nw_c nwe_521 (nw_c nwe_613 (nw_c nwe_614 (nw_c nwe_611 nw_n))))))))))))))) (nwl_X70))
def nwp_X7_next : List Nat := 627 :: ([])
theorem nwl_X7_next : nwp_X7_next.map nw = wsX7_next := nw_c nwe_627 (nw_n)
def nwp_X7_bySmell : List Nat := 628 :: (([514, 629, 630, 631, 534, 626, 520, 608, 609, 610, 605, 616, 617, 618, 612, 521, 613, 614, 611, 632, 633, 627] ++ nwp_X70))
theorem nwl_X7_bySmell : nwp_X7_bySmell.map nw = wsX7_bySmell := nw_c nwe_628 (nw_a (nw_c nwe_514 (nw_c nwe_629 (nw_c nwe_630 (nw_c nwe_631 (nw_c nwe_534 (nw_c nwe_626 (nw_c nwe_520 (nw_c nwe_608 (nw_c nwe_609 (nw_c nwe_610 (nw_c nwe_605 (nw_c nwe_616 (nw_c nwe_617 (nw_c nwe_618 (nw_c nwe_612 (nw_c nwe_521 (nw_c nwe_613 (nw_c nwe_614 (nw_c nwe_611 (nw_c nwe_632 (nw_c nwe_633 (nw_c nwe_627 nw_n)))))))))))))))))))))) (nwl_X70))
def nwp_X7_whoHas : List Nat := 634 :: (([514, 552, 553, 554, 534, 549] ++ nwp_X70))
theorem nwl_X7_whoHas : nwp_X7_whoHas.map nw = wsX7_whoHas := nw_c nwe_634 (nw_a (nw_c nwe_514 (nw_c nwe_552 (nw_c nwe_553 (nw_c nwe_554 (nw_c nwe_534 (nw_c nwe_549 nw_n)))))) (nwl_X70))
def nwp_X7_digs_r1 : List Nat := [514, 522, 622, 623, 534, 539, 552, 553, 554, 549, 632, 633, 627, 635, 636, 637, 628, 629, 630, 631, 626, 520, 608, 609]
theorem nwl_X7_digs_r1 : nwp_X7_digs_r1.map nw = wsX7_digs_r1 := nw_c nwe_514 (nw_c nwe_522 (nw_c nwe_622 (nw_c nwe_623 (nw_c nwe_534 (nw_c nwe_539 (nw_c nwe_552 (nw_c nwe_553 (nw_c nwe_554 (nw_c nwe_549 (nw_c nwe_632 (nw_c nwe_633 (nw_c nwe_627 (nw_c nwe_635 (nw_c nwe_636 (nw_c nwe_637 (nw_c nwe_628 (nw_c nwe_629 (nw_c nwe_630 (nw_c nwe_631 (nw_c nwe_626 (nw_c nwe_520 (nw_c nwe_608 (nw_c nwe_609 nw_n)))))))))))))))))))))))
def nwp_X7_digs_r2 : List Nat := [610, 605, 616, 617, 618, 612, 521, 613, 614, 611]
theorem nwl_X7_digs_r2 : nwp_X7_digs_r2.map nw = wsX7_digs_r2 := nw_c nwe_610 (nw_c nwe_605 (nw_c nwe_616 (nw_c nwe_617 (nw_c nwe_618 (nw_c nwe_612 (nw_c nwe_521 (nw_c nwe_613 (nw_c nwe_614 (nw_c nwe_611 nw_n)))))))))
def nwp_X7_digs : List Nat := 638 :: (((nwp_X7_digs_r1 ++ nwp_X7_digs_r2) ++ nwp_X70))
theorem nwl_X7_digs : nwp_X7_digs.map nw = wsX7_digs := nw_c nwe_638 (nw_a (nw_a (nwl_X7_digs_r1) (nwl_X7_digs_r2)) (nwl_X70))
def nwp_X7_gets : List Nat := 639 :: (([640, 552, 553, 554, 534, 549, 514, 622, 623, 539, 531, 532, 533, 513] ++ nwp_X70))
theorem nwl_X7_gets : nwp_X7_gets.map nw = wsX7_gets := nw_c nwe_639 (nw_a (nw_c nwe_640 (nw_c nwe_552 (nw_c nwe_553 (nw_c nwe_554 (nw_c nwe_534 (nw_c nwe_549 (nw_c nwe_514 (nw_c nwe_622 (nw_c nwe_623 (nw_c nwe_539 (nw_c nwe_531 (nw_c nwe_532 (nw_c nwe_533 (nw_c nwe_513 nw_n)))))))))))))) (nwl_X70))
def nwp_X7_day_r1 : List Nat := [640, 514, 523, 641, 642, 643, 534, 634, 552, 553, 554, 549, 644, 645, 646, 638, 522, 622, 623, 539, 632, 633, 627, 635]
theorem nwl_X7_day_r1 : nwp_X7_day_r1.map nw = wsX7_day_r1 := nw_c nwe_640 (nw_c nwe_514 (nw_c nwe_523 (nw_c nwe_641 (nw_c nwe_642 (nw_c nwe_643 (nw_c nwe_534 (nw_c nwe_634 (nw_c nwe_552 (nw_c nwe_553 (nw_c nwe_554 (nw_c nwe_549 (nw_c nwe_644 (nw_c nwe_645 (nw_c nwe_646 (nw_c nwe_638 (nw_c nwe_522 (nw_c nwe_622 (nw_c nwe_623 (nw_c nwe_539 (nw_c nwe_632 (nw_c nwe_633 (nw_c nwe_627 (nw_c nwe_635 nw_n)))))))))))))))))))))))
def nwp_X7_day_r2 : List Nat := [636, 637, 628, 629, 630, 631, 626, 520, 608, 609, 610, 605, 616, 617, 618, 612, 521, 613, 614, 611, 647, 648, 649, 625]
theorem nwl_X7_day_r2 : nwp_X7_day_r2.map nw = wsX7_day_r2 := nw_c nwe_636 (nw_c nwe_637 (nw_c nwe_628 (nw_c nwe_629 (nw_c nwe_630 (nw_c nwe_631 (nw_c nwe_626 (nw_c nwe_520 (nw_c nwe_608 (nw_c nwe_609 (nw_c nwe_610 (nw_c nwe_605 (nw_c nwe_616 (nw_c nwe_617 (nw_c nwe_618 (nw_c nwe_612 (nw_c nwe_521 (nw_c nwe_613 (nw_c nwe_614 (nw_c nwe_611 (nw_c nwe_647 (nw_c nwe_648 (nw_c nwe_649 (nw_c nwe_625 nw_n)))))))))))))))))))))))
def nwp_X7_day_r3 : List Nat := [531, 532, 533, 513, 650, 651, 652, 639, 653, 654, 655, 624, 619, 620, 621, 615]
theorem nwl_X7_day_r3 : nwp_X7_day_r3.map nw = wsX7_day_r3 := nw_c nwe_531 (nw_c nwe_532 (nw_c nwe_533 (nw_c nwe_513 (nw_c nwe_650 (nw_c nwe_651 (nw_c nwe_652 (nw_c nwe_639 (nw_c nwe_653 (nw_c nwe_654 (nw_c nwe_655 (nw_c nwe_624 (nw_c nwe_619 (nw_c nwe_620 (nw_c nwe_621 (nw_c nwe_615 nw_n)))))))))))))))
def nwp_X7_day : List Nat := 656 :: (((nwp_X7_day_r1 ++ (nwp_X7_day_r2 ++ nwp_X7_day_r3)) ++ nwp_X70))
theorem nwl_X7_day : nwp_X7_day.map nw = wsX7_day := nw_c nwe_656 (nw_a (nw_a (nwl_X7_day_r1) (nw_a (nwl_X7_day_r2) (nwl_X7_day_r3))) (nwl_X70))
def nwp_X7_go_r1 : List Nat := [657, 658, 659, 534, 656, 640, 514, 523, 641, 642, 643, 634, 552, 553, 554, 549, 644, 645, 646, 638, 522, 622, 623, 539]
theorem nwl_X7_go_r1 : nwp_X7_go_r1.map nw = wsX7_go_r1 := nw_c nwe_657 (nw_c nwe_658 (nw_c nwe_659 (nw_c nwe_534 (nw_c nwe_656 (nw_c nwe_640 (nw_c nwe_514 (nw_c nwe_523 (nw_c nwe_641 (nw_c nwe_642 (nw_c nwe_643 (nw_c nwe_634 (nw_c nwe_552 (nw_c nwe_553 (nw_c nwe_554 (nw_c nwe_549 (nw_c nwe_644 (nw_c nwe_645 (nw_c nwe_646 (nw_c nwe_638 (nw_c nwe_522 (nw_c nwe_622 (nw_c nwe_623 (nw_c nwe_539 nw_n)))))))))))))))))))))))
def nwp_X7_go_r2 : List Nat := [632, 633, 627, 635, 636, 637, 628, 629, 630, 631, 626, 520, 608, 609, 610, 605, 616, 617, 618, 612, 521, 613, 614, 611]
theorem nwl_X7_go_r2 : nwp_X7_go_r2.map nw = wsX7_go_r2 := nw_c nwe_632 (nw_c nwe_633 (nw_c nwe_627 (nw_c nwe_635 (nw_c nwe_636 (nw_c nwe_637 (nw_c nwe_628 (nw_c nwe_629 (nw_c nwe_630 (nw_c nwe_631 (nw_c nwe_626 (nw_c nwe_520 (nw_c nwe_608 (nw_c nwe_609 (nw_c nwe_610 (nw_c nwe_605 (nw_c nwe_616 (nw_c nwe_617 (nw_c nwe_618 (nw_c nwe_612 (nw_c nwe_521 (nw_c nwe_613 (nw_c nwe_614 (nw_c nwe_611 nw_n)))))))))))))))))))))))
def nwp_X7_go_r3 : List Nat := [647, 648, 649, 625, 531, 532, 533, 513, 650, 651, 652, 639, 653, 654, 655, 624, 619, 620, 621, 615]
theorem nwl_X7_go_r3 : nwp_X7_go_r3.map nw = wsX7_go_r3 := nw_c nwe_647 (nw_c nwe_648 (nw_c nwe_649 (nw_c nwe_625 (nw_c nwe_531 (nw_c nwe_532 (nw_c nwe_533 (nw_c nwe_513 (nw_c nwe_650 (nw_c nwe_651 (nw_c nwe_652 (nw_c nwe_639 (nw_c nwe_653 (nw_c nwe_654 (nw_c nwe_655 (nw_c nwe_624 (nw_c nwe_619 (nw_c nwe_620 (nw_c nwe_621 (nw_c nwe_615 nw_n)))))))))))))))))))
def nwp_X7_go : List Nat := 660 :: (((nwp_X7_go_r1 ++ (nwp_X7_go_r2 ++ nwp_X7_go_r3)) ++ nwp_X70))
theorem nwl_X7_go : nwp_X7_go.map nw = wsX7_go := nw_c nwe_660 (nw_a (nw_a (nwl_X7_go_r1) (nw_a (nwl_X7_go_r2) (nwl_X7_go_r3))) (nwl_X70))
def nwp_X7_oak : List Nat := 661 :: (([662, 663, 534, 545, 546, 547, 538, 558, 559, 560, 536, 518, 537, 664, 665, 666, 550, 514] ++ nwp_X70))
theorem nwl_X7_oak : nwp_X7_oak.map nw = wsX7_oak := nw_c nwe_661 (nw_a (nw_c nwe_662 (nw_c nwe_663 (nw_c nwe_534 (nw_c nwe_545 (nw_c nwe_546 (nw_c nwe_547 (nw_c nwe_538 (nw_c nwe_558 (nw_c nwe_559 (nw_c nwe_560 (nw_c nwe_536 (nw_c nwe_518 (nw_c nwe_537 (nw_c nwe_664 (nw_c nwe_665 (nw_c nwe_666 (nw_c nwe_550 (nw_c nwe_514 nw_n)))))))))))))))))) (nwl_X70))
def nwp_X7_oakIs_r1 : List Nat := [514, 662, 663, 534, 545, 546, 547, 538, 558, 559, 560, 536, 518, 537, 629, 630, 631, 626, 520, 608, 609, 610, 605, 616]
theorem nwl_X7_oakIs_r1 : nwp_X7_oakIs_r1.map nw = wsX7_oakIs_r1 := nw_c nwe_514 (nw_c nwe_662 (nw_c nwe_663 (nw_c nwe_534 (nw_c nwe_545 (nw_c nwe_546 (nw_c nwe_547 (nw_c nwe_538 (nw_c nwe_558 (nw_c nwe_559 (nw_c nwe_560 (nw_c nwe_536 (nw_c nwe_518 (nw_c nwe_537 (nw_c nwe_629 (nw_c nwe_630 (nw_c nwe_631 (nw_c nwe_626 (nw_c nwe_520 (nw_c nwe_608 (nw_c nwe_609 (nw_c nwe_610 (nw_c nwe_605 (nw_c nwe_616 nw_n)))))))))))))))))))))))
def nwp_X7_oakIs_r2 : List Nat := [617, 618, 612, 521, 613, 614, 611]
theorem nwl_X7_oakIs_r2 : nwp_X7_oakIs_r2.map nw = wsX7_oakIs_r2 := nw_c nwe_617 (nw_c nwe_618 (nw_c nwe_612 (nw_c nwe_521 (nw_c nwe_613 (nw_c nwe_614 (nw_c nwe_611 nw_n))))))
def nwp_X7_oakIs : List Nat := 667 :: (((nwp_X7_oakIs_r1 ++ nwp_X7_oakIs_r2) ++ nwp_X70))
theorem nwl_X7_oakIs : nwp_X7_oakIs.map nw = wsX7_oakIs := nw_c nwe_667 (nw_a (nw_a (nwl_X7_oakIs_r1) (nwl_X7_oakIs_r2)) (nwl_X70))
def nwp_X7_rain : List Nat := 668 :: (([546, 547, 534, 538, 664, 665, 666, 550, 514, 558, 559, 560, 536, 518, 537] ++ nwp_X70))
theorem nwl_X7_rain : nwp_X7_rain.map nw = wsX7_rain := nw_c nwe_668 (nw_a (nw_c nwe_546 (nw_c nwe_547 (nw_c nwe_534 (nw_c nwe_538 (nw_c nwe_664 (nw_c nwe_665 (nw_c nwe_666 (nw_c nwe_550 (nw_c nwe_514 (nw_c nwe_558 (nw_c nwe_559 (nw_c nwe_560 (nw_c nwe_536 (nw_c nwe_518 (nw_c nwe_537 nw_n))))))))))))))) (nwl_X70))
def nwp_X7_farmer : List Nat := 669 :: (([670, 671, 534, 548, 546, 547, 538, 558, 559, 560, 536, 518, 537, 552, 553, 554, 549, 514, 531, 532, 533, 513] ++ nwp_X70))
theorem nwl_X7_farmer : nwp_X7_farmer.map nw = wsX7_farmer := nw_c nwe_669 (nw_a (nw_c nwe_670 (nw_c nwe_671 (nw_c nwe_534 (nw_c nwe_548 (nw_c nwe_546 (nw_c nwe_547 (nw_c nwe_538 (nw_c nwe_558 (nw_c nwe_559 (nw_c nwe_560 (nw_c nwe_536 (nw_c nwe_518 (nw_c nwe_537 (nw_c nwe_552 (nw_c nwe_553 (nw_c nwe_554 (nw_c nwe_549 (nw_c nwe_514 (nw_c nwe_531 (nw_c nwe_532 (nw_c nwe_533 (nw_c nwe_513 nw_n)))))))))))))))))))))) (nwl_X70))
def nwp_X7_farmerIs : List Nat := 672 :: (([670, 671, 534, 548, 546, 547, 538, 552, 553, 554, 549, 514, 558, 559, 560, 536, 518, 537] ++ nwp_X70))
theorem nwl_X7_farmerIs : nwp_X7_farmerIs.map nw = wsX7_farmerIs := nw_c nwe_672 (nw_a (nw_c nwe_670 (nw_c nwe_671 (nw_c nwe_534 (nw_c nwe_548 (nw_c nwe_546 (nw_c nwe_547 (nw_c nwe_538 (nw_c nwe_552 (nw_c nwe_553 (nw_c nwe_554 (nw_c nwe_549 (nw_c nwe_514 (nw_c nwe_558 (nw_c nwe_559 (nw_c nwe_560 (nw_c nwe_536 (nw_c nwe_518 (nw_c nwe_537 nw_n)))))))))))))))))) (nwl_X70))
def nwp_X7_isUnder : List Nat := 673 :: ([])
theorem nwl_X7_isUnder : nwp_X7_isUnder.map nw = wsX7_isUnder := nw_c nwe_673 (nw_n)
def nwp_X7_as : List Nat := 674 :: (([670, 671, 534, 548, 546, 547, 538, 558, 559, 560, 536, 518, 537, 552, 553, 554, 549, 514, 675, 676, 673] ++ nwp_X70))
theorem nwl_X7_as : nwp_X7_as.map nw = wsX7_as := nw_c nwe_674 (nw_a (nw_c nwe_670 (nw_c nwe_671 (nw_c nwe_534 (nw_c nwe_548 (nw_c nwe_546 (nw_c nwe_547 (nw_c nwe_538 (nw_c nwe_558 (nw_c nwe_559 (nw_c nwe_560 (nw_c nwe_536 (nw_c nwe_518 (nw_c nwe_537 (nw_c nwe_552 (nw_c nwe_553 (nw_c nwe_554 (nw_c nwe_549 (nw_c nwe_514 (nw_c nwe_675 (nw_c nwe_676 (nw_c nwe_673 nw_n))))))))))))))))))))) (nwl_X70))
def nwp_X7_trades : List Nat := 677 :: (([552, 553, 554, 534, 549, 514, 531, 532, 533, 513] ++ nwp_X70))
theorem nwl_X7_trades : nwp_X7_trades.map nw = wsX7_trades := nw_c nwe_677 (nw_a (nw_c nwe_552 (nw_c nwe_553 (nw_c nwe_554 (nw_c nwe_534 (nw_c nwe_549 (nw_c nwe_514 (nw_c nwe_531 (nw_c nwe_532 (nw_c nwe_533 (nw_c nwe_513 nw_n)))))))))) (nwl_X70))
def nwp_X7_trade_r1 : List Nat := [670, 671, 534, 548, 546, 547, 538, 558, 559, 560, 536, 518, 537, 678, 679, 680, 677, 552, 553, 554, 549, 514, 531, 532]
theorem nwl_X7_trade_r1 : nwp_X7_trade_r1.map nw = wsX7_trade_r1 := nw_c nwe_670 (nw_c nwe_671 (nw_c nwe_534 (nw_c nwe_548 (nw_c nwe_546 (nw_c nwe_547 (nw_c nwe_538 (nw_c nwe_558 (nw_c nwe_559 (nw_c nwe_560 (nw_c nwe_536 (nw_c nwe_518 (nw_c nwe_537 (nw_c nwe_678 (nw_c nwe_679 (nw_c nwe_680 (nw_c nwe_677 (nw_c nwe_552 (nw_c nwe_553 (nw_c nwe_554 (nw_c nwe_549 (nw_c nwe_514 (nw_c nwe_531 (nw_c nwe_532 nw_n)))))))))))))))))))))))
def nwp_X7_trade_r2 : List Nat := [533, 513]
theorem nwl_X7_trade_r2 : nwp_X7_trade_r2.map nw = wsX7_trade_r2 := nw_c nwe_533 (nw_c nwe_513 nw_n)
def nwp_X7_trade : List Nat := 681 :: (((nwp_X7_trade_r1 ++ nwp_X7_trade_r2) ++ nwp_X70))
theorem nwl_X7_trade : nwp_X7_trade.map nw = wsX7_trade := nw_c nwe_681 (nw_a (nw_a (nwl_X7_trade_r1) (nwl_X7_trade_r2)) (nwl_X70))
def nwp_X7_leash : List Nat := 682 :: (([670, 671, 534, 548, 546, 547, 538, 664, 665, 666, 550, 514, 558, 559, 560, 536, 518, 537] ++ nwp_X70))
theorem nwl_X7_leash : nwp_X7_leash.map nw = wsX7_leash := nw_c nwe_682 (nw_a (nw_c nwe_670 (nw_c nwe_671 (nw_c nwe_534 (nw_c nwe_548 (nw_c nwe_546 (nw_c nwe_547 (nw_c nwe_538 (nw_c nwe_664 (nw_c nwe_665 (nw_c nwe_666 (nw_c nwe_550 (nw_c nwe_514 (nw_c nwe_558 (nw_c nwe_559 (nw_c nwe_560 (nw_c nwe_536 (nw_c nwe_518 (nw_c nwe_537 nw_n)))))))))))))))))) (nwl_X70))
def nwp_X7_pig : List Nat := 683 :: (([546, 547, 534, 538, 664, 665, 666, 550, 514, 558, 559, 560, 536, 518, 537] ++ nwp_X70))
theorem nwl_X7_pig : nwp_X7_pig.map nw = wsX7_pig := nw_c nwe_683 (nw_a (nw_c nwe_546 (nw_c nwe_547 (nw_c nwe_534 (nw_c nwe_538 (nw_c nwe_664 (nw_c nwe_665 (nw_c nwe_666 (nw_c nwe_550 (nw_c nwe_514 (nw_c nwe_558 (nw_c nwe_559 (nw_c nwe_560 (nw_c nwe_536 (nw_c nwe_518 (nw_c nwe_537 nw_n))))))))))))))) (nwl_X70))
def nwp_X7_whyNotDays : List Nat := 684 :: (([514, 546, 547, 534, 538] ++ nwp_X70))
theorem nwl_X7_whyNotDays : nwp_X7_whyNotDays.map nw = wsX7_whyNotDays := nw_c nwe_684 (nw_a (nw_c nwe_514 (nw_c nwe_546 (nw_c nwe_547 (nw_c nwe_534 (nw_c nwe_538 nw_n))))) (nwl_X70))
def nwp_X7_days_r1 : List Nat := [685, 686, 687, 534, 684, 514, 546, 547, 538, 558, 559, 560, 536, 518, 537, 688, 689, 690, 660, 657, 658, 659, 656, 640]
theorem nwl_X7_days_r1 : nwp_X7_days_r1.map nw = wsX7_days_r1 := nw_c nwe_685 (nw_c nwe_686 (nw_c nwe_687 (nw_c nwe_534 (nw_c nwe_684 (nw_c nwe_514 (nw_c nwe_546 (nw_c nwe_547 (nw_c nwe_538 (nw_c nwe_558 (nw_c nwe_559 (nw_c nwe_560 (nw_c nwe_536 (nw_c nwe_518 (nw_c nwe_537 (nw_c nwe_688 (nw_c nwe_689 (nw_c nwe_690 (nw_c nwe_660 (nw_c nwe_657 (nw_c nwe_658 (nw_c nwe_659 (nw_c nwe_656 (nw_c nwe_640 nw_n)))))))))))))))))))))))
def nwp_X7_days_r2 : List Nat := [523, 641, 642, 643, 634, 552, 553, 554, 549, 644, 645, 646, 638, 522, 622, 623, 539, 632, 633, 627, 635, 636, 637, 628]
theorem nwl_X7_days_r2 : nwp_X7_days_r2.map nw = wsX7_days_r2 := nw_c nwe_523 (nw_c nwe_641 (nw_c nwe_642 (nw_c nwe_643 (nw_c nwe_634 (nw_c nwe_552 (nw_c nwe_553 (nw_c nwe_554 (nw_c nwe_549 (nw_c nwe_644 (nw_c nwe_645 (nw_c nwe_646 (nw_c nwe_638 (nw_c nwe_522 (nw_c nwe_622 (nw_c nwe_623 (nw_c nwe_539 (nw_c nwe_632 (nw_c nwe_633 (nw_c nwe_627 (nw_c nwe_635 (nw_c nwe_636 (nw_c nwe_637 (nw_c nwe_628 nw_n)))))))))))))))))))))))
def nwp_X7_days_r3 : List Nat := [629, 630, 631, 626, 520, 608, 609, 610, 605, 616, 617, 618, 612, 521, 613, 614, 611, 647, 648, 649, 625, 531, 532, 533]
theorem nwl_X7_days_r3 : nwp_X7_days_r3.map nw = wsX7_days_r3 := nw_c nwe_629 (nw_c nwe_630 (nw_c nwe_631 (nw_c nwe_626 (nw_c nwe_520 (nw_c nwe_608 (nw_c nwe_609 (nw_c nwe_610 (nw_c nwe_605 (nw_c nwe_616 (nw_c nwe_617 (nw_c nwe_618 (nw_c nwe_612 (nw_c nwe_521 (nw_c nwe_613 (nw_c nwe_614 (nw_c nwe_611 (nw_c nwe_647 (nw_c nwe_648 (nw_c nwe_649 (nw_c nwe_625 (nw_c nwe_531 (nw_c nwe_532 (nw_c nwe_533 nw_n)))))))))))))))))))))))
def nwp_X7_days_r4 : List Nat := [513, 650, 651, 652, 639, 653, 654, 655, 624, 619, 620, 621, 615]
theorem nwl_X7_days_r4 : nwp_X7_days_r4.map nw = wsX7_days_r4 := nw_c nwe_513 (nw_c nwe_650 (nw_c nwe_651 (nw_c nwe_652 (nw_c nwe_639 (nw_c nwe_653 (nw_c nwe_654 (nw_c nwe_655 (nw_c nwe_624 (nw_c nwe_619 (nw_c nwe_620 (nw_c nwe_621 (nw_c nwe_615 nw_n))))))))))))
def nwp_X7_days : List Nat := 691 :: (((nwp_X7_days_r1 ++ (nwp_X7_days_r2 ++ (nwp_X7_days_r3 ++ nwp_X7_days_r4))) ++ nwp_X70))
theorem nwl_X7_days : nwp_X7_days.map nw = wsX7_days := nw_c nwe_691 (nw_a (nw_a (nwl_X7_days_r1) (nw_a (nwl_X7_days_r2) (nw_a (nwl_X7_days_r3) (nwl_X7_days_r4)))) (nwl_X70))
def nwp_X7_draw : List Nat := 692 :: (([514, 693] ++ nwp_X70))
theorem nwl_X7_draw : nwp_X7_draw.map nw = wsX7_draw := nw_c nwe_692 (nw_a (nw_c nwe_514 (nw_c nwe_693 nw_n)) (nwl_X70))
def nwp_X7_draws_r1 : List Nat := [514, 685, 686, 687, 534, 684, 546, 547, 538, 558, 559, 560, 536, 518, 537, 694, 695, 696, 692, 693, 657, 658, 659, 656]
theorem nwl_X7_draws_r1 : nwp_X7_draws_r1.map nw = wsX7_draws_r1 := nw_c nwe_514 (nw_c nwe_685 (nw_c nwe_686 (nw_c nwe_687 (nw_c nwe_534 (nw_c nwe_684 (nw_c nwe_546 (nw_c nwe_547 (nw_c nwe_538 (nw_c nwe_558 (nw_c nwe_559 (nw_c nwe_560 (nw_c nwe_536 (nw_c nwe_518 (nw_c nwe_537 (nw_c nwe_694 (nw_c nwe_695 (nw_c nwe_696 (nw_c nwe_692 (nw_c nwe_693 (nw_c nwe_657 (nw_c nwe_658 (nw_c nwe_659 (nw_c nwe_656 nw_n)))))))))))))))))))))))
def nwp_X7_draws_r2 : List Nat := [640, 523, 641, 642, 643, 634, 552, 553, 554, 549, 644, 645, 646, 638, 522, 622, 623, 539, 632, 633, 627, 635, 636, 637]
theorem nwl_X7_draws_r2 : nwp_X7_draws_r2.map nw = wsX7_draws_r2 := nw_c nwe_640 (nw_c nwe_523 (nw_c nwe_641 (nw_c nwe_642 (nw_c nwe_643 (nw_c nwe_634 (nw_c nwe_552 (nw_c nwe_553 (nw_c nwe_554 (nw_c nwe_549 (nw_c nwe_644 (nw_c nwe_645 (nw_c nwe_646 (nw_c nwe_638 (nw_c nwe_522 (nw_c nwe_622 (nw_c nwe_623 (nw_c nwe_539 (nw_c nwe_632 (nw_c nwe_633 (nw_c nwe_627 (nw_c nwe_635 (nw_c nwe_636 (nw_c nwe_637 nw_n)))))))))))))))))))))))
def nwp_X7_draws_r3 : List Nat := [628, 629, 630, 631, 626, 520, 608, 609, 610, 605, 616, 617, 618, 612, 521, 613, 614, 611, 647, 648, 649, 625, 531, 532]
theorem nwl_X7_draws_r3 : nwp_X7_draws_r3.map nw = wsX7_draws_r3 := nw_c nwe_628 (nw_c nwe_629 (nw_c nwe_630 (nw_c nwe_631 (nw_c nwe_626 (nw_c nwe_520 (nw_c nwe_608 (nw_c nwe_609 (nw_c nwe_610 (nw_c nwe_605 (nw_c nwe_616 (nw_c nwe_617 (nw_c nwe_618 (nw_c nwe_612 (nw_c nwe_521 (nw_c nwe_613 (nw_c nwe_614 (nw_c nwe_611 (nw_c nwe_647 (nw_c nwe_648 (nw_c nwe_649 (nw_c nwe_625 (nw_c nwe_531 (nw_c nwe_532 nw_n)))))))))))))))))))))))
def nwp_X7_draws_r4 : List Nat := [533, 513, 650, 651, 652, 639, 653, 654, 655, 624, 619, 620, 621, 615]
theorem nwl_X7_draws_r4 : nwp_X7_draws_r4.map nw = wsX7_draws_r4 := nw_c nwe_533 (nw_c nwe_513 (nw_c nwe_650 (nw_c nwe_651 (nw_c nwe_652 (nw_c nwe_639 (nw_c nwe_653 (nw_c nwe_654 (nw_c nwe_655 (nw_c nwe_624 (nw_c nwe_619 (nw_c nwe_620 (nw_c nwe_621 (nw_c nwe_615 nw_n)))))))))))))
def nwp_X7_draws : List Nat := 697 :: (((nwp_X7_draws_r1 ++ (nwp_X7_draws_r2 ++ (nwp_X7_draws_r3 ++ nwp_X7_draws_r4))) ++ nwp_X70))
theorem nwl_X7_draws : nwp_X7_draws.map nw = wsX7_draws := nw_c nwe_697 (nw_a (nw_a (nwl_X7_draws_r1) (nw_a (nwl_X7_draws_r2) (nw_a (nwl_X7_draws_r3) (nwl_X7_draws_r4)))) (nwl_X70))
def nwp_X7_seed : List Nat := 698 :: (([664, 665, 666, 534, 550, 514] ++ nwp_X70))
theorem nwl_X7_seed : nwp_X7_seed.map nw = wsX7_seed := nw_c nwe_698 (nw_a (nw_c nwe_664 (nw_c nwe_665 (nw_c nwe_666 (nw_c nwe_534 (nw_c nwe_550 (nw_c nwe_514 nw_n)))))) (nwl_X70))
def nwp_X7_then_r1 : List Nat := [546, 547, 534, 538, 670, 671, 548, 558, 559, 560, 536, 518, 537, 699, 700, 701, 541, 514, 517, 542, 543, 540, 688, 689]
theorem nwl_X7_then_r1 : nwp_X7_then_r1.map nw = wsX7_then_r1 := nw_c nwe_546 (nw_c nwe_547 (nw_c nwe_534 (nw_c nwe_538 (nw_c nwe_670 (nw_c nwe_671 (nw_c nwe_548 (nw_c nwe_558 (nw_c nwe_559 (nw_c nwe_560 (nw_c nwe_536 (nw_c nwe_518 (nw_c nwe_537 (nw_c nwe_699 (nw_c nwe_700 (nw_c nwe_701 (nw_c nwe_541 (nw_c nwe_514 (nw_c nwe_517 (nw_c nwe_542 (nw_c nwe_543 (nw_c nwe_540 (nw_c nwe_688 (nw_c nwe_689 nw_n)))))))))))))))))))))))
def nwp_X7_then_r2 : List Nat := [690, 660, 657, 658, 659, 656, 640, 523, 641, 642, 643, 634, 552, 553, 554, 549, 644, 645, 646, 638, 522, 622, 623, 539]
theorem nwl_X7_then_r2 : nwp_X7_then_r2.map nw = wsX7_then_r2 := nw_c nwe_690 (nw_c nwe_660 (nw_c nwe_657 (nw_c nwe_658 (nw_c nwe_659 (nw_c nwe_656 (nw_c nwe_640 (nw_c nwe_523 (nw_c nwe_641 (nw_c nwe_642 (nw_c nwe_643 (nw_c nwe_634 (nw_c nwe_552 (nw_c nwe_553 (nw_c nwe_554 (nw_c nwe_549 (nw_c nwe_644 (nw_c nwe_645 (nw_c nwe_646 (nw_c nwe_638 (nw_c nwe_522 (nw_c nwe_622 (nw_c nwe_623 (nw_c nwe_539 nw_n)))))))))))))))))))))))
def nwp_X7_then_r3 : List Nat := [632, 633, 627, 635, 636, 637, 628, 629, 630, 631, 626, 520, 608, 609, 610, 605, 616, 617, 618, 612, 521, 613, 614, 611]
theorem nwl_X7_then_r3 : nwp_X7_then_r3.map nw = wsX7_then_r3 := nw_c nwe_632 (nw_c nwe_633 (nw_c nwe_627 (nw_c nwe_635 (nw_c nwe_636 (nw_c nwe_637 (nw_c nwe_628 (nw_c nwe_629 (nw_c nwe_630 (nw_c nwe_631 (nw_c nwe_626 (nw_c nwe_520 (nw_c nwe_608 (nw_c nwe_609 (nw_c nwe_610 (nw_c nwe_605 (nw_c nwe_616 (nw_c nwe_617 (nw_c nwe_618 (nw_c nwe_612 (nw_c nwe_521 (nw_c nwe_613 (nw_c nwe_614 (nw_c nwe_611 nw_n)))))))))))))))))))))))
def nwp_X7_then_r4 : List Nat := [647, 648, 649, 625, 531, 532, 533, 513, 650, 651, 652, 639, 653, 654, 655, 624, 619, 620, 621, 615, 702, 703, 704, 544]
theorem nwl_X7_then_r4 : nwp_X7_then_r4.map nw = wsX7_then_r4 := nw_c nwe_647 (nw_c nwe_648 (nw_c nwe_649 (nw_c nwe_625 (nw_c nwe_531 (nw_c nwe_532 (nw_c nwe_533 (nw_c nwe_513 (nw_c nwe_650 (nw_c nwe_651 (nw_c nwe_652 (nw_c nwe_639 (nw_c nwe_653 (nw_c nwe_654 (nw_c nwe_655 (nw_c nwe_624 (nw_c nwe_619 (nw_c nwe_620 (nw_c nwe_621 (nw_c nwe_615 (nw_c nwe_702 (nw_c nwe_703 (nw_c nwe_704 (nw_c nwe_544 nw_n)))))))))))))))))))))))
def nwp_X7_then : List Nat := 705 :: (((nwp_X7_then_r1 ++ (nwp_X7_then_r2 ++ (nwp_X7_then_r3 ++ nwp_X7_then_r4))) ++ nwp_X70))
theorem nwl_X7_then : nwp_X7_then.map nw = wsX7_then := nw_c nwe_705 (nw_a (nw_a (nwl_X7_then_r1) (nw_a (nwl_X7_then_r2) (nw_a (nwl_X7_then_r3) (nwl_X7_then_r4)))) (nwl_X70))
def nwp_X7_map : List Nat := 706 :: (([514] ++ nwp_X70))
theorem nwl_X7_map : nwp_X7_map.map nw = wsX7_map := nw_c nwe_706 (nw_a (nw_c nwe_514 nw_n) (nwl_X70))
def nwp_X7_ahead_r1 : List Nat := [514, 546, 547, 534, 538, 558, 559, 560, 536, 518, 537, 699, 700, 701, 541, 517, 542, 543, 540, 688, 689, 690, 660, 657]
theorem nwl_X7_ahead_r1 : nwp_X7_ahead_r1.map nw = wsX7_ahead_r1 := nw_c nwe_514 (nw_c nwe_546 (nw_c nwe_547 (nw_c nwe_534 (nw_c nwe_538 (nw_c nwe_558 (nw_c nwe_559 (nw_c nwe_560 (nw_c nwe_536 (nw_c nwe_518 (nw_c nwe_537 (nw_c nwe_699 (nw_c nwe_700 (nw_c nwe_701 (nw_c nwe_541 (nw_c nwe_517 (nw_c nwe_542 (nw_c nwe_543 (nw_c nwe_540 (nw_c nwe_688 (nw_c nwe_689 (nw_c nwe_690 (nw_c nwe_660 (nw_c nwe_657 nw_n)))))))))))))))))))))))
def nwp_X7_ahead_r2 : List Nat := [658, 659, 656, 640, 523, 641, 642, 643, 634, 552, 553, 554, 549, 644, 645, 646, 638, 522, 622, 623, 539, 632, 633, 627]
theorem nwl_X7_ahead_r2 : nwp_X7_ahead_r2.map nw = wsX7_ahead_r2 := nw_c nwe_658 (nw_c nwe_659 (nw_c nwe_656 (nw_c nwe_640 (nw_c nwe_523 (nw_c nwe_641 (nw_c nwe_642 (nw_c nwe_643 (nw_c nwe_634 (nw_c nwe_552 (nw_c nwe_553 (nw_c nwe_554 (nw_c nwe_549 (nw_c nwe_644 (nw_c nwe_645 (nw_c nwe_646 (nw_c nwe_638 (nw_c nwe_522 (nw_c nwe_622 (nw_c nwe_623 (nw_c nwe_539 (nw_c nwe_632 (nw_c nwe_633 (nw_c nwe_627 nw_n)))))))))))))))))))))))
def nwp_X7_ahead_r3 : List Nat := [635, 636, 637, 628, 629, 630, 631, 626, 520, 608, 609, 610, 605, 616, 617, 618, 612, 521, 613, 614, 611, 647, 648, 649]
theorem nwl_X7_ahead_r3 : nwp_X7_ahead_r3.map nw = wsX7_ahead_r3 := nw_c nwe_635 (nw_c nwe_636 (nw_c nwe_637 (nw_c nwe_628 (nw_c nwe_629 (nw_c nwe_630 (nw_c nwe_631 (nw_c nwe_626 (nw_c nwe_520 (nw_c nwe_608 (nw_c nwe_609 (nw_c nwe_610 (nw_c nwe_605 (nw_c nwe_616 (nw_c nwe_617 (nw_c nwe_618 (nw_c nwe_612 (nw_c nwe_521 (nw_c nwe_613 (nw_c nwe_614 (nw_c nwe_611 (nw_c nwe_647 (nw_c nwe_648 (nw_c nwe_649 nw_n)))))))))))))))))))))))
def nwp_X7_ahead_r4 : List Nat := [625, 531, 532, 533, 513, 650, 651, 652, 639, 653, 654, 655, 624, 619, 620, 621, 615, 707, 708, 709, 555, 710, 711, 712]
theorem nwl_X7_ahead_r4 : nwp_X7_ahead_r4.map nw = wsX7_ahead_r4 := nw_c nwe_625 (nw_c nwe_531 (nw_c nwe_532 (nw_c nwe_533 (nw_c nwe_513 (nw_c nwe_650 (nw_c nwe_651 (nw_c nwe_652 (nw_c nwe_639 (nw_c nwe_653 (nw_c nwe_654 (nw_c nwe_655 (nw_c nwe_624 (nw_c nwe_619 (nw_c nwe_620 (nw_c nwe_621 (nw_c nwe_615 (nw_c nwe_707 (nw_c nwe_708 (nw_c nwe_709 (nw_c nwe_555 (nw_c nwe_710 (nw_c nwe_711 (nw_c nwe_712 nw_n)))))))))))))))))))))))
def nwp_X7_ahead_r5 : List Nat := [706, 702, 703, 704, 544]
theorem nwl_X7_ahead_r5 : nwp_X7_ahead_r5.map nw = wsX7_ahead_r5 := nw_c nwe_706 (nw_c nwe_702 (nw_c nwe_703 (nw_c nwe_704 (nw_c nwe_544 nw_n))))
def nwp_X7_ahead : List Nat := 713 :: (((nwp_X7_ahead_r1 ++ (nwp_X7_ahead_r2 ++ (nwp_X7_ahead_r3 ++ (nwp_X7_ahead_r4 ++ nwp_X7_ahead_r5)))) ++ nwp_X70))
theorem nwl_X7_ahead : nwp_X7_ahead.map nw = wsX7_ahead := nw_c nwe_713 (nw_a (nw_a (nwl_X7_ahead_r1) (nw_a (nwl_X7_ahead_r2) (nw_a (nwl_X7_ahead_r3) (nw_a (nwl_X7_ahead_r4) (nwl_X7_ahead_r5))))) (nwl_X70))
def nwp_X7_bestLeash_r1 : List Nat := [546, 547, 534, 538, 558, 559, 560, 536, 518, 537, 641, 642, 643, 634, 514, 552, 553, 554, 549, 699, 700, 701, 541, 517]
theorem nwl_X7_bestLeash_r1 : nwp_X7_bestLeash_r1.map nw = wsX7_bestLeash_r1 := nw_c nwe_546 (nw_c nwe_547 (nw_c nwe_534 (nw_c nwe_538 (nw_c nwe_558 (nw_c nwe_559 (nw_c nwe_560 (nw_c nwe_536 (nw_c nwe_518 (nw_c nwe_537 (nw_c nwe_641 (nw_c nwe_642 (nw_c nwe_643 (nw_c nwe_634 (nw_c nwe_514 (nw_c nwe_552 (nw_c nwe_553 (nw_c nwe_554 (nw_c nwe_549 (nw_c nwe_699 (nw_c nwe_700 (nw_c nwe_701 (nw_c nwe_541 (nw_c nwe_517 nw_n)))))))))))))))))))))))
def nwp_X7_bestLeash_r2 : List Nat := [542, 543, 540, 531, 532, 533, 513, 644, 645, 646, 638, 522, 622, 623, 539, 632, 633, 627, 635, 636, 637, 628, 629, 630]
theorem nwl_X7_bestLeash_r2 : nwp_X7_bestLeash_r2.map nw = wsX7_bestLeash_r2 := nw_c nwe_542 (nw_c nwe_543 (nw_c nwe_540 (nw_c nwe_531 (nw_c nwe_532 (nw_c nwe_533 (nw_c nwe_513 (nw_c nwe_644 (nw_c nwe_645 (nw_c nwe_646 (nw_c nwe_638 (nw_c nwe_522 (nw_c nwe_622 (nw_c nwe_623 (nw_c nwe_539 (nw_c nwe_632 (nw_c nwe_633 (nw_c nwe_627 (nw_c nwe_635 (nw_c nwe_636 (nw_c nwe_637 (nw_c nwe_628 (nw_c nwe_629 (nw_c nwe_630 nw_n)))))))))))))))))))))))
def nwp_X7_bestLeash_r3 : List Nat := [631, 626, 520, 608, 609, 610, 605, 616, 617, 618, 612, 521, 613, 614, 611, 702, 703, 704, 544]
theorem nwl_X7_bestLeash_r3 : nwp_X7_bestLeash_r3.map nw = wsX7_bestLeash_r3 := nw_c nwe_631 (nw_c nwe_626 (nw_c nwe_520 (nw_c nwe_608 (nw_c nwe_609 (nw_c nwe_610 (nw_c nwe_605 (nw_c nwe_616 (nw_c nwe_617 (nw_c nwe_618 (nw_c nwe_612 (nw_c nwe_521 (nw_c nwe_613 (nw_c nwe_614 (nw_c nwe_611 (nw_c nwe_702 (nw_c nwe_703 (nw_c nwe_704 (nw_c nwe_544 nw_n))))))))))))))))))
def nwp_X7_bestLeash : List Nat := 714 :: (((nwp_X7_bestLeash_r1 ++ (nwp_X7_bestLeash_r2 ++ nwp_X7_bestLeash_r3)) ++ nwp_X70))
theorem nwl_X7_bestLeash : nwp_X7_bestLeash.map nw = wsX7_bestLeash := nw_c nwe_714 (nw_a (nw_a (nwl_X7_bestLeash_r1) (nw_a (nwl_X7_bestLeash_r2) (nwl_X7_bestLeash_r3))) (nwl_X70))
def nwp_X7_bestFeed_r1 : List Nat := [523, 546, 547, 534, 538, 558, 559, 560, 536, 518, 537, 641, 642, 643, 634, 514, 552, 553, 554, 549, 699, 700, 701, 541]
theorem nwl_X7_bestFeed_r1 : nwp_X7_bestFeed_r1.map nw = wsX7_bestFeed_r1 := nw_c nwe_523 (nw_c nwe_546 (nw_c nwe_547 (nw_c nwe_534 (nw_c nwe_538 (nw_c nwe_558 (nw_c nwe_559 (nw_c nwe_560 (nw_c nwe_536 (nw_c nwe_518 (nw_c nwe_537 (nw_c nwe_641 (nw_c nwe_642 (nw_c nwe_643 (nw_c nwe_634 (nw_c nwe_514 (nw_c nwe_552 (nw_c nwe_553 (nw_c nwe_554 (nw_c nwe_549 (nw_c nwe_699 (nw_c nwe_700 (nw_c nwe_701 (nw_c nwe_541 nw_n)))))))))))))))))))))))
def nwp_X7_bestFeed_r2 : List Nat := [517, 542, 543, 540, 657, 658, 659, 656, 640, 644, 645, 646, 638, 522, 622, 623, 539, 632, 633, 627, 635, 636, 637, 628]
theorem nwl_X7_bestFeed_r2 : nwp_X7_bestFeed_r2.map nw = wsX7_bestFeed_r2 := nw_c nwe_517 (nw_c nwe_542 (nw_c nwe_543 (nw_c nwe_540 (nw_c nwe_657 (nw_c nwe_658 (nw_c nwe_659 (nw_c nwe_656 (nw_c nwe_640 (nw_c nwe_644 (nw_c nwe_645 (nw_c nwe_646 (nw_c nwe_638 (nw_c nwe_522 (nw_c nwe_622 (nw_c nwe_623 (nw_c nwe_539 (nw_c nwe_632 (nw_c nwe_633 (nw_c nwe_627 (nw_c nwe_635 (nw_c nwe_636 (nw_c nwe_637 (nw_c nwe_628 nw_n)))))))))))))))))))))))
def nwp_X7_bestFeed_r3 : List Nat := [629, 630, 631, 626, 520, 608, 609, 610, 605, 616, 617, 618, 612, 521, 613, 614, 611, 647, 648, 649, 625, 531, 532, 533]
theorem nwl_X7_bestFeed_r3 : nwp_X7_bestFeed_r3.map nw = wsX7_bestFeed_r3 := nw_c nwe_629 (nw_c nwe_630 (nw_c nwe_631 (nw_c nwe_626 (nw_c nwe_520 (nw_c nwe_608 (nw_c nwe_609 (nw_c nwe_610 (nw_c nwe_605 (nw_c nwe_616 (nw_c nwe_617 (nw_c nwe_618 (nw_c nwe_612 (nw_c nwe_521 (nw_c nwe_613 (nw_c nwe_614 (nw_c nwe_611 (nw_c nwe_647 (nw_c nwe_648 (nw_c nwe_649 (nw_c nwe_625 (nw_c nwe_531 (nw_c nwe_532 (nw_c nwe_533 nw_n)))))))))))))))))))))))
def nwp_X7_bestFeed_r4 : List Nat := [513, 650, 651, 652, 639, 653, 654, 655, 624, 619, 620, 621, 615, 688, 689, 690, 660, 715, 716, 717, 551, 702, 703, 704]
theorem nwl_X7_bestFeed_r4 : nwp_X7_bestFeed_r4.map nw = wsX7_bestFeed_r4 := nw_c nwe_513 (nw_c nwe_650 (nw_c nwe_651 (nw_c nwe_652 (nw_c nwe_639 (nw_c nwe_653 (nw_c nwe_654 (nw_c nwe_655 (nw_c nwe_624 (nw_c nwe_619 (nw_c nwe_620 (nw_c nwe_621 (nw_c nwe_615 (nw_c nwe_688 (nw_c nwe_689 (nw_c nwe_690 (nw_c nwe_660 (nw_c nwe_715 (nw_c nwe_716 (nw_c nwe_717 (nw_c nwe_551 (nw_c nwe_702 (nw_c nwe_703 (nw_c nwe_704 nw_n)))))))))))))))))))))))
def nwp_X7_bestFeed_r5 : List Nat := [544]
theorem nwl_X7_bestFeed_r5 : nwp_X7_bestFeed_r5.map nw = wsX7_bestFeed_r5 := nw_c nwe_544 nw_n
def nwp_X7_bestFeed : List Nat := 718 :: (((nwp_X7_bestFeed_r1 ++ (nwp_X7_bestFeed_r2 ++ (nwp_X7_bestFeed_r3 ++ (nwp_X7_bestFeed_r4 ++ nwp_X7_bestFeed_r5)))) ++ nwp_X70))
theorem nwl_X7_bestFeed : nwp_X7_bestFeed.map nw = wsX7_bestFeed := nw_c nwe_718 (nw_a (nw_a (nwl_X7_bestFeed_r1) (nw_a (nwl_X7_bestFeed_r2) (nw_a (nwl_X7_bestFeed_r3) (nw_a (nwl_X7_bestFeed_r4) (nwl_X7_bestFeed_r5))))) (nwl_X70))
def nwp_X7_behind_r1 : List Nat := [699, 700, 701, 534, 541, 514, 517, 542, 543, 540, 688, 689, 690, 660, 657, 658, 659, 656, 640, 523, 641, 642, 643, 634]
theorem nwl_X7_behind_r1 : nwp_X7_behind_r1.map nw = wsX7_behind_r1 := nw_c nwe_699 (nw_c nwe_700 (nw_c nwe_701 (nw_c nwe_534 (nw_c nwe_541 (nw_c nwe_514 (nw_c nwe_517 (nw_c nwe_542 (nw_c nwe_543 (nw_c nwe_540 (nw_c nwe_688 (nw_c nwe_689 (nw_c nwe_690 (nw_c nwe_660 (nw_c nwe_657 (nw_c nwe_658 (nw_c nwe_659 (nw_c nwe_656 (nw_c nwe_640 (nw_c nwe_523 (nw_c nwe_641 (nw_c nwe_642 (nw_c nwe_643 (nw_c nwe_634 nw_n)))))))))))))))))))))))
def nwp_X7_behind_r2 : List Nat := [552, 553, 554, 549, 644, 645, 646, 638, 522, 622, 623, 539, 632, 633, 627, 635, 636, 637, 628, 629, 630, 631, 626, 520]
theorem nwl_X7_behind_r2 : nwp_X7_behind_r2.map nw = wsX7_behind_r2 := nw_c nwe_552 (nw_c nwe_553 (nw_c nwe_554 (nw_c nwe_549 (nw_c nwe_644 (nw_c nwe_645 (nw_c nwe_646 (nw_c nwe_638 (nw_c nwe_522 (nw_c nwe_622 (nw_c nwe_623 (nw_c nwe_539 (nw_c nwe_632 (nw_c nwe_633 (nw_c nwe_627 (nw_c nwe_635 (nw_c nwe_636 (nw_c nwe_637 (nw_c nwe_628 (nw_c nwe_629 (nw_c nwe_630 (nw_c nwe_631 (nw_c nwe_626 (nw_c nwe_520 nw_n)))))))))))))))))))))))
def nwp_X7_behind_r3 : List Nat := [608, 609, 610, 605, 616, 617, 618, 612, 521, 613, 614, 611, 647, 648, 649, 625, 531, 532, 533, 513, 650, 651, 652, 639]
theorem nwl_X7_behind_r3 : nwp_X7_behind_r3.map nw = wsX7_behind_r3 := nw_c nwe_608 (nw_c nwe_609 (nw_c nwe_610 (nw_c nwe_605 (nw_c nwe_616 (nw_c nwe_617 (nw_c nwe_618 (nw_c nwe_612 (nw_c nwe_521 (nw_c nwe_613 (nw_c nwe_614 (nw_c nwe_611 (nw_c nwe_647 (nw_c nwe_648 (nw_c nwe_649 (nw_c nwe_625 (nw_c nwe_531 (nw_c nwe_532 (nw_c nwe_533 (nw_c nwe_513 (nw_c nwe_650 (nw_c nwe_651 (nw_c nwe_652 (nw_c nwe_639 nw_n)))))))))))))))))))))))
def nwp_X7_behind_r4 : List Nat := [653, 654, 655, 624, 619, 620, 621, 615, 702, 703, 704, 544]
theorem nwl_X7_behind_r4 : nwp_X7_behind_r4.map nw = wsX7_behind_r4 := nw_c nwe_653 (nw_c nwe_654 (nw_c nwe_655 (nw_c nwe_624 (nw_c nwe_619 (nw_c nwe_620 (nw_c nwe_621 (nw_c nwe_615 (nw_c nwe_702 (nw_c nwe_703 (nw_c nwe_704 (nw_c nwe_544 nw_n)))))))))))
def nwp_X7_behind : List Nat := 719 :: (((nwp_X7_behind_r1 ++ (nwp_X7_behind_r2 ++ (nwp_X7_behind_r3 ++ nwp_X7_behind_r4))) ++ nwp_X70))
theorem nwl_X7_behind : nwp_X7_behind.map nw = wsX7_behind := nw_c nwe_719 (nw_a (nw_a (nwl_X7_behind_r1) (nw_a (nwl_X7_behind_r2) (nw_a (nwl_X7_behind_r3) (nwl_X7_behind_r4)))) (nwl_X70))
def nwp_X7_behindTrade_r1 : List Nat := [525, 678, 679, 680, 534, 677, 552, 553, 554, 549, 514, 531, 532, 533, 513, 720, 721, 722, 719, 699, 700, 701, 541, 517]
theorem nwl_X7_behindTrade_r1 : nwp_X7_behindTrade_r1.map nw = wsX7_behindTrade_r1 := nw_c nwe_525 (nw_c nwe_678 (nw_c nwe_679 (nw_c nwe_680 (nw_c nwe_534 (nw_c nwe_677 (nw_c nwe_552 (nw_c nwe_553 (nw_c nwe_554 (nw_c nwe_549 (nw_c nwe_514 (nw_c nwe_531 (nw_c nwe_532 (nw_c nwe_533 (nw_c nwe_513 (nw_c nwe_720 (nw_c nwe_721 (nw_c nwe_722 (nw_c nwe_719 (nw_c nwe_699 (nw_c nwe_700 (nw_c nwe_701 (nw_c nwe_541 (nw_c nwe_517 nw_n)))))))))))))))))))))))
def nwp_X7_behindTrade_r2 : List Nat := [542, 543, 540, 688, 689, 690, 660, 657, 658, 659, 656, 640, 523, 641, 642, 643, 634, 644, 645, 646, 638, 522, 622, 623]
theorem nwl_X7_behindTrade_r2 : nwp_X7_behindTrade_r2.map nw = wsX7_behindTrade_r2 := nw_c nwe_542 (nw_c nwe_543 (nw_c nwe_540 (nw_c nwe_688 (nw_c nwe_689 (nw_c nwe_690 (nw_c nwe_660 (nw_c nwe_657 (nw_c nwe_658 (nw_c nwe_659 (nw_c nwe_656 (nw_c nwe_640 (nw_c nwe_523 (nw_c nwe_641 (nw_c nwe_642 (nw_c nwe_643 (nw_c nwe_634 (nw_c nwe_644 (nw_c nwe_645 (nw_c nwe_646 (nw_c nwe_638 (nw_c nwe_522 (nw_c nwe_622 (nw_c nwe_623 nw_n)))))))))))))))))))))))
def nwp_X7_behindTrade_r3 : List Nat := [539, 632, 633, 627, 635, 636, 637, 628, 629, 630, 631, 626, 520, 608, 609, 610, 605, 616, 617, 618, 612, 521, 613, 614]
theorem nwl_X7_behindTrade_r3 : nwp_X7_behindTrade_r3.map nw = wsX7_behindTrade_r3 := nw_c nwe_539 (nw_c nwe_632 (nw_c nwe_633 (nw_c nwe_627 (nw_c nwe_635 (nw_c nwe_636 (nw_c nwe_637 (nw_c nwe_628 (nw_c nwe_629 (nw_c nwe_630 (nw_c nwe_631 (nw_c nwe_626 (nw_c nwe_520 (nw_c nwe_608 (nw_c nwe_609 (nw_c nwe_610 (nw_c nwe_605 (nw_c nwe_616 (nw_c nwe_617 (nw_c nwe_618 (nw_c nwe_612 (nw_c nwe_521 (nw_c nwe_613 (nw_c nwe_614 nw_n)))))))))))))))))))))))
def nwp_X7_behindTrade_r4 : List Nat := [611, 647, 648, 649, 625, 650, 651, 652, 639, 653, 654, 655, 624, 619, 620, 621, 615, 702, 703, 704, 544]
theorem nwl_X7_behindTrade_r4 : nwp_X7_behindTrade_r4.map nw = wsX7_behindTrade_r4 := nw_c nwe_611 (nw_c nwe_647 (nw_c nwe_648 (nw_c nwe_649 (nw_c nwe_625 (nw_c nwe_650 (nw_c nwe_651 (nw_c nwe_652 (nw_c nwe_639 (nw_c nwe_653 (nw_c nwe_654 (nw_c nwe_655 (nw_c nwe_624 (nw_c nwe_619 (nw_c nwe_620 (nw_c nwe_621 (nw_c nwe_615 (nw_c nwe_702 (nw_c nwe_703 (nw_c nwe_704 (nw_c nwe_544 nw_n))))))))))))))))))))
def nwp_X7_behindTrade : List Nat := 723 :: (((nwp_X7_behindTrade_r1 ++ (nwp_X7_behindTrade_r2 ++ (nwp_X7_behindTrade_r3 ++ nwp_X7_behindTrade_r4))) ++ nwp_X70))
theorem nwl_X7_behindTrade : nwp_X7_behindTrade.map nw = wsX7_behindTrade := nw_c nwe_723 (nw_a (nw_a (nwl_X7_behindTrade_r1) (nw_a (nwl_X7_behindTrade_r2) (nw_a (nwl_X7_behindTrade_r3) (nwl_X7_behindTrade_r4)))) (nwl_X70))
def nwp_X7_gain_r1 : List Nat := [524, 525, 670, 671, 534, 548, 546, 547, 538, 558, 559, 560, 536, 518, 537, 720, 721, 722, 719, 699, 700, 701, 541, 514]
theorem nwl_X7_gain_r1 : nwp_X7_gain_r1.map nw = wsX7_gain_r1 := nw_c nwe_524 (nw_c nwe_525 (nw_c nwe_670 (nw_c nwe_671 (nw_c nwe_534 (nw_c nwe_548 (nw_c nwe_546 (nw_c nwe_547 (nw_c nwe_538 (nw_c nwe_558 (nw_c nwe_559 (nw_c nwe_560 (nw_c nwe_536 (nw_c nwe_518 (nw_c nwe_537 (nw_c nwe_720 (nw_c nwe_721 (nw_c nwe_722 (nw_c nwe_719 (nw_c nwe_699 (nw_c nwe_700 (nw_c nwe_701 (nw_c nwe_541 (nw_c nwe_514 nw_n)))))))))))))))))))))))
def nwp_X7_gain_r2 : List Nat := [517, 542, 543, 540, 688, 689, 690, 660, 657, 658, 659, 656, 640, 523, 641, 642, 643, 634, 552, 553, 554, 549, 644, 645]
theorem nwl_X7_gain_r2 : nwp_X7_gain_r2.map nw = wsX7_gain_r2 := nw_c nwe_517 (nw_c nwe_542 (nw_c nwe_543 (nw_c nwe_540 (nw_c nwe_688 (nw_c nwe_689 (nw_c nwe_690 (nw_c nwe_660 (nw_c nwe_657 (nw_c nwe_658 (nw_c nwe_659 (nw_c nwe_656 (nw_c nwe_640 (nw_c nwe_523 (nw_c nwe_641 (nw_c nwe_642 (nw_c nwe_643 (nw_c nwe_634 (nw_c nwe_552 (nw_c nwe_553 (nw_c nwe_554 (nw_c nwe_549 (nw_c nwe_644 (nw_c nwe_645 nw_n)))))))))))))))))))))))
def nwp_X7_gain_r3 : List Nat := [646, 638, 522, 622, 623, 539, 632, 633, 627, 635, 636, 637, 628, 629, 630, 631, 626, 520, 608, 609, 610, 605, 616, 617]
theorem nwl_X7_gain_r3 : nwp_X7_gain_r3.map nw = wsX7_gain_r3 := nw_c nwe_646 (nw_c nwe_638 (nw_c nwe_522 (nw_c nwe_622 (nw_c nwe_623 (nw_c nwe_539 (nw_c nwe_632 (nw_c nwe_633 (nw_c nwe_627 (nw_c nwe_635 (nw_c nwe_636 (nw_c nwe_637 (nw_c nwe_628 (nw_c nwe_629 (nw_c nwe_630 (nw_c nwe_631 (nw_c nwe_626 (nw_c nwe_520 (nw_c nwe_608 (nw_c nwe_609 (nw_c nwe_610 (nw_c nwe_605 (nw_c nwe_616 (nw_c nwe_617 nw_n)))))))))))))))))))))))
def nwp_X7_gain_r4 : List Nat := [618, 612, 521, 613, 614, 611, 647, 648, 649, 625, 531, 532, 533, 513, 650, 651, 652, 639, 653, 654, 655, 624, 619, 620]
theorem nwl_X7_gain_r4 : nwp_X7_gain_r4.map nw = wsX7_gain_r4 := nw_c nwe_618 (nw_c nwe_612 (nw_c nwe_521 (nw_c nwe_613 (nw_c nwe_614 (nw_c nwe_611 (nw_c nwe_647 (nw_c nwe_648 (nw_c nwe_649 (nw_c nwe_625 (nw_c nwe_531 (nw_c nwe_532 (nw_c nwe_533 (nw_c nwe_513 (nw_c nwe_650 (nw_c nwe_651 (nw_c nwe_652 (nw_c nwe_639 (nw_c nwe_653 (nw_c nwe_654 (nw_c nwe_655 (nw_c nwe_624 (nw_c nwe_619 (nw_c nwe_620 nw_n)))))))))))))))))))))))
def nwp_X7_gain_r5 : List Nat := [621, 615, 702, 703, 704, 544, 724, 725, 726, 723, 678, 679, 680, 677]
theorem nwl_X7_gain_r5 : nwp_X7_gain_r5.map nw = wsX7_gain_r5 := nw_c nwe_621 (nw_c nwe_615 (nw_c nwe_702 (nw_c nwe_703 (nw_c nwe_704 (nw_c nwe_544 (nw_c nwe_724 (nw_c nwe_725 (nw_c nwe_726 (nw_c nwe_723 (nw_c nwe_678 (nw_c nwe_679 (nw_c nwe_680 (nw_c nwe_677 nw_n)))))))))))))
def nwp_X7_gain : List Nat := 727 :: (((nwp_X7_gain_r1 ++ (nwp_X7_gain_r2 ++ (nwp_X7_gain_r3 ++ (nwp_X7_gain_r4 ++ nwp_X7_gain_r5)))) ++ nwp_X70))
theorem nwl_X7_gain : nwp_X7_gain.map nw = wsX7_gain := nw_c nwe_727 (nw_a (nw_a (nwl_X7_gain_r1) (nw_a (nwl_X7_gain_r2) (nw_a (nwl_X7_gain_r3) (nw_a (nwl_X7_gain_r4) (nwl_X7_gain_r5))))) (nwl_X70))
def nwp_X7_bestTrade_r1 : List Nat := [524, 525, 720, 721, 722, 534, 719, 699, 700, 701, 541, 514, 517, 542, 543, 540, 688, 689, 690, 660, 657, 658, 659, 656]
theorem nwl_X7_bestTrade_r1 : nwp_X7_bestTrade_r1.map nw = wsX7_bestTrade_r1 := nw_c nwe_524 (nw_c nwe_525 (nw_c nwe_720 (nw_c nwe_721 (nw_c nwe_722 (nw_c nwe_534 (nw_c nwe_719 (nw_c nwe_699 (nw_c nwe_700 (nw_c nwe_701 (nw_c nwe_541 (nw_c nwe_514 (nw_c nwe_517 (nw_c nwe_542 (nw_c nwe_543 (nw_c nwe_540 (nw_c nwe_688 (nw_c nwe_689 (nw_c nwe_690 (nw_c nwe_660 (nw_c nwe_657 (nw_c nwe_658 (nw_c nwe_659 (nw_c nwe_656 nw_n)))))))))))))))))))))))
def nwp_X7_bestTrade_r2 : List Nat := [640, 523, 641, 642, 643, 634, 552, 553, 554, 549, 644, 645, 646, 638, 522, 622, 623, 539, 632, 633, 627, 635, 636, 637]
theorem nwl_X7_bestTrade_r2 : nwp_X7_bestTrade_r2.map nw = wsX7_bestTrade_r2 := nw_c nwe_640 (nw_c nwe_523 (nw_c nwe_641 (nw_c nwe_642 (nw_c nwe_643 (nw_c nwe_634 (nw_c nwe_552 (nw_c nwe_553 (nw_c nwe_554 (nw_c nwe_549 (nw_c nwe_644 (nw_c nwe_645 (nw_c nwe_646 (nw_c nwe_638 (nw_c nwe_522 (nw_c nwe_622 (nw_c nwe_623 (nw_c nwe_539 (nw_c nwe_632 (nw_c nwe_633 (nw_c nwe_627 (nw_c nwe_635 (nw_c nwe_636 (nw_c nwe_637 nw_n)))))))))))))))))))))))
def nwp_X7_bestTrade_r3 : List Nat := [628, 629, 630, 631, 626, 520, 608, 609, 610, 605, 616, 617, 618, 612, 521, 613, 614, 611, 647, 648, 649, 625, 531, 532]
theorem nwl_X7_bestTrade_r3 : nwp_X7_bestTrade_r3.map nw = wsX7_bestTrade_r3 := nw_c nwe_628 (nw_c nwe_629 (nw_c nwe_630 (nw_c nwe_631 (nw_c nwe_626 (nw_c nwe_520 (nw_c nwe_608 (nw_c nwe_609 (nw_c nwe_610 (nw_c nwe_605 (nw_c nwe_616 (nw_c nwe_617 (nw_c nwe_618 (nw_c nwe_612 (nw_c nwe_521 (nw_c nwe_613 (nw_c nwe_614 (nw_c nwe_611 (nw_c nwe_647 (nw_c nwe_648 (nw_c nwe_649 (nw_c nwe_625 (nw_c nwe_531 (nw_c nwe_532 nw_n)))))))))))))))))))))))
def nwp_X7_bestTrade_r4 : List Nat := [533, 513, 650, 651, 652, 639, 653, 654, 655, 624, 619, 620, 621, 615, 702, 703, 704, 544, 724, 725, 726, 723, 678, 679]
theorem nwl_X7_bestTrade_r4 : nwp_X7_bestTrade_r4.map nw = wsX7_bestTrade_r4 := nw_c nwe_533 (nw_c nwe_513 (nw_c nwe_650 (nw_c nwe_651 (nw_c nwe_652 (nw_c nwe_639 (nw_c nwe_653 (nw_c nwe_654 (nw_c nwe_655 (nw_c nwe_624 (nw_c nwe_619 (nw_c nwe_620 (nw_c nwe_621 (nw_c nwe_615 (nw_c nwe_702 (nw_c nwe_703 (nw_c nwe_704 (nw_c nwe_544 (nw_c nwe_724 (nw_c nwe_725 (nw_c nwe_726 (nw_c nwe_723 (nw_c nwe_678 (nw_c nwe_679 nw_n)))))))))))))))))))))))
def nwp_X7_bestTrade_r5 : List Nat := [680, 677, 558, 559, 560, 536, 518, 537]
theorem nwl_X7_bestTrade_r5 : nwp_X7_bestTrade_r5.map nw = wsX7_bestTrade_r5 := nw_c nwe_680 (nw_c nwe_677 (nw_c nwe_558 (nw_c nwe_559 (nw_c nwe_560 (nw_c nwe_536 (nw_c nwe_518 (nw_c nwe_537 nw_n)))))))
def nwp_X7_bestTrade : List Nat := 728 :: (((nwp_X7_bestTrade_r1 ++ (nwp_X7_bestTrade_r2 ++ (nwp_X7_bestTrade_r3 ++ (nwp_X7_bestTrade_r4 ++ nwp_X7_bestTrade_r5)))) ++ nwp_X70))
theorem nwl_X7_bestTrade : nwp_X7_bestTrade.map nw = wsX7_bestTrade := nw_c nwe_728 (nw_a (nw_a (nwl_X7_bestTrade_r1) (nw_a (nwl_X7_bestTrade_r2) (nw_a (nwl_X7_bestTrade_r3) (nw_a (nwl_X7_bestTrade_r4) (nwl_X7_bestTrade_r5))))) (nwl_X70))
def nwp_X7_share_r1 : List Nat := [514, 522, 670, 671, 534, 548, 546, 547, 538, 558, 559, 560, 536, 518, 537, 699, 700, 701, 541, 517, 542, 543, 540, 641]
theorem nwl_X7_share_r1 : nwp_X7_share_r1.map nw = wsX7_share_r1 := nw_c nwe_514 (nw_c nwe_522 (nw_c nwe_670 (nw_c nwe_671 (nw_c nwe_534 (nw_c nwe_548 (nw_c nwe_546 (nw_c nwe_547 (nw_c nwe_538 (nw_c nwe_558 (nw_c nwe_559 (nw_c nwe_560 (nw_c nwe_536 (nw_c nwe_518 (nw_c nwe_537 (nw_c nwe_699 (nw_c nwe_700 (nw_c nwe_701 (nw_c nwe_541 (nw_c nwe_517 (nw_c nwe_542 (nw_c nwe_543 (nw_c nwe_540 (nw_c nwe_641 nw_n)))))))))))))))))))))))
def nwp_X7_share_r2 : List Nat := [642, 643, 634, 552, 553, 554, 549, 657, 658, 659, 656, 640, 523, 644, 645, 646, 638, 622, 623, 539, 632, 633, 627, 635]
theorem nwl_X7_share_r2 : nwp_X7_share_r2.map nw = wsX7_share_r2 := nw_c nwe_642 (nw_c nwe_643 (nw_c nwe_634 (nw_c nwe_552 (nw_c nwe_553 (nw_c nwe_554 (nw_c nwe_549 (nw_c nwe_657 (nw_c nwe_658 (nw_c nwe_659 (nw_c nwe_656 (nw_c nwe_640 (nw_c nwe_523 (nw_c nwe_644 (nw_c nwe_645 (nw_c nwe_646 (nw_c nwe_638 (nw_c nwe_622 (nw_c nwe_623 (nw_c nwe_539 (nw_c nwe_632 (nw_c nwe_633 (nw_c nwe_627 (nw_c nwe_635 nw_n)))))))))))))))))))))))
def nwp_X7_share_r3 : List Nat := [636, 637, 628, 629, 630, 631, 626, 520, 608, 609, 610, 605, 616, 617, 618, 612, 521, 613, 614, 611, 647, 648, 649, 625]
theorem nwl_X7_share_r3 : nwp_X7_share_r3.map nw = wsX7_share_r3 := nw_c nwe_636 (nw_c nwe_637 (nw_c nwe_628 (nw_c nwe_629 (nw_c nwe_630 (nw_c nwe_631 (nw_c nwe_626 (nw_c nwe_520 (nw_c nwe_608 (nw_c nwe_609 (nw_c nwe_610 (nw_c nwe_605 (nw_c nwe_616 (nw_c nwe_617 (nw_c nwe_618 (nw_c nwe_612 (nw_c nwe_521 (nw_c nwe_613 (nw_c nwe_614 (nw_c nwe_611 (nw_c nwe_647 (nw_c nwe_648 (nw_c nwe_649 (nw_c nwe_625 nw_n)))))))))))))))))))))))
def nwp_X7_share_r4 : List Nat := [531, 532, 533, 513, 650, 651, 652, 639, 653, 654, 655, 624, 619, 620, 621, 615, 702, 703, 704, 544]
theorem nwl_X7_share_r4 : nwp_X7_share_r4.map nw = wsX7_share_r4 := nw_c nwe_531 (nw_c nwe_532 (nw_c nwe_533 (nw_c nwe_513 (nw_c nwe_650 (nw_c nwe_651 (nw_c nwe_652 (nw_c nwe_639 (nw_c nwe_653 (nw_c nwe_654 (nw_c nwe_655 (nw_c nwe_624 (nw_c nwe_619 (nw_c nwe_620 (nw_c nwe_621 (nw_c nwe_615 (nw_c nwe_702 (nw_c nwe_703 (nw_c nwe_704 (nw_c nwe_544 nw_n)))))))))))))))))))
def nwp_X7_share : List Nat := 729 :: (((nwp_X7_share_r1 ++ (nwp_X7_share_r2 ++ (nwp_X7_share_r3 ++ nwp_X7_share_r4))) ++ nwp_X70))
theorem nwl_X7_share : nwp_X7_share.map nw = wsX7_share := nw_c nwe_729 (nw_a (nw_a (nwl_X7_share_r1) (nw_a (nwl_X7_share_r2) (nw_a (nwl_X7_share_r3) (nwl_X7_share_r4)))) (nwl_X70))
def nwp_X7_explains_r1 : List Nat := [529, 699, 700, 701, 534, 541, 514, 517, 542, 543, 540, 531, 532, 533, 513, 688, 689, 690, 660, 657, 658, 659, 656, 640]
theorem nwl_X7_explains_r1 : nwp_X7_explains_r1.map nw = wsX7_explains_r1 := nw_c nwe_529 (nw_c nwe_699 (nw_c nwe_700 (nw_c nwe_701 (nw_c nwe_534 (nw_c nwe_541 (nw_c nwe_514 (nw_c nwe_517 (nw_c nwe_542 (nw_c nwe_543 (nw_c nwe_540 (nw_c nwe_531 (nw_c nwe_532 (nw_c nwe_533 (nw_c nwe_513 (nw_c nwe_688 (nw_c nwe_689 (nw_c nwe_690 (nw_c nwe_660 (nw_c nwe_657 (nw_c nwe_658 (nw_c nwe_659 (nw_c nwe_656 (nw_c nwe_640 nw_n)))))))))))))))))))))))
def nwp_X7_explains_r2 : List Nat := [523, 641, 642, 643, 634, 552, 553, 554, 549, 644, 645, 646, 638, 522, 622, 623, 539, 632, 633, 627, 635, 636, 637, 628]
theorem nwl_X7_explains_r2 : nwp_X7_explains_r2.map nw = wsX7_explains_r2 := nw_c nwe_523 (nw_c nwe_641 (nw_c nwe_642 (nw_c nwe_643 (nw_c nwe_634 (nw_c nwe_552 (nw_c nwe_553 (nw_c nwe_554 (nw_c nwe_549 (nw_c nwe_644 (nw_c nwe_645 (nw_c nwe_646 (nw_c nwe_638 (nw_c nwe_522 (nw_c nwe_622 (nw_c nwe_623 (nw_c nwe_539 (nw_c nwe_632 (nw_c nwe_633 (nw_c nwe_627 (nw_c nwe_635 (nw_c nwe_636 (nw_c nwe_637 (nw_c nwe_628 nw_n)))))))))))))))))))))))
def nwp_X7_explains_r3 : List Nat := [629, 630, 631, 626, 520, 608, 609, 610, 605, 616, 617, 618, 612, 521, 613, 614, 611, 647, 648, 649, 625, 650, 651, 652]
theorem nwl_X7_explains_r3 : nwp_X7_explains_r3.map nw = wsX7_explains_r3 := nw_c nwe_629 (nw_c nwe_630 (nw_c nwe_631 (nw_c nwe_626 (nw_c nwe_520 (nw_c nwe_608 (nw_c nwe_609 (nw_c nwe_610 (nw_c nwe_605 (nw_c nwe_616 (nw_c nwe_617 (nw_c nwe_618 (nw_c nwe_612 (nw_c nwe_521 (nw_c nwe_613 (nw_c nwe_614 (nw_c nwe_611 (nw_c nwe_647 (nw_c nwe_648 (nw_c nwe_649 (nw_c nwe_625 (nw_c nwe_650 (nw_c nwe_651 (nw_c nwe_652 nw_n)))))))))))))))))))))))
def nwp_X7_explains_r4 : List Nat := [639, 653, 654, 655, 624, 619, 620, 621, 615, 702, 703, 704, 544]
theorem nwl_X7_explains_r4 : nwp_X7_explains_r4.map nw = wsX7_explains_r4 := nw_c nwe_639 (nw_c nwe_653 (nw_c nwe_654 (nw_c nwe_655 (nw_c nwe_624 (nw_c nwe_619 (nw_c nwe_620 (nw_c nwe_621 (nw_c nwe_615 (nw_c nwe_702 (nw_c nwe_703 (nw_c nwe_704 (nw_c nwe_544 nw_n))))))))))))
def nwp_X7_explains : List Nat := 730 :: (((nwp_X7_explains_r1 ++ (nwp_X7_explains_r2 ++ (nwp_X7_explains_r3 ++ nwp_X7_explains_r4))) ++ nwp_X70))
theorem nwl_X7_explains : nwp_X7_explains.map nw = wsX7_explains := nw_c nwe_730 (nw_a (nw_a (nwl_X7_explains_r1) (nw_a (nwl_X7_explains_r2) (nw_a (nwl_X7_explains_r3) (nwl_X7_explains_r4)))) (nwl_X70))
def nwp_X7_isSheet : List Nat := 731 :: ([546, 547, 534, 538])
theorem nwl_X7_isSheet : nwp_X7_isSheet.map nw = wsX7_isSheet := nw_c nwe_731 (nw_c nwe_546 (nw_c nwe_547 (nw_c nwe_534 (nw_c nwe_538 nw_n))))
def nwp_X7_whoHid_r1 : List Nat := [527, 528, 732, 733, 534, 731, 546, 547, 538, 558, 559, 560, 536, 518, 537, 734, 735, 736, 730, 529, 699, 700, 701, 541]
theorem nwl_X7_whoHid_r1 : nwp_X7_whoHid_r1.map nw = wsX7_whoHid_r1 := nw_c nwe_527 (nw_c nwe_528 (nw_c nwe_732 (nw_c nwe_733 (nw_c nwe_534 (nw_c nwe_731 (nw_c nwe_546 (nw_c nwe_547 (nw_c nwe_538 (nw_c nwe_558 (nw_c nwe_559 (nw_c nwe_560 (nw_c nwe_536 (nw_c nwe_518 (nw_c nwe_537 (nw_c nwe_734 (nw_c nwe_735 (nw_c nwe_736 (nw_c nwe_730 (nw_c nwe_529 (nw_c nwe_699 (nw_c nwe_700 (nw_c nwe_701 (nw_c nwe_541 nw_n)))))))))))))))))))))))
def nwp_X7_whoHid_r2 : List Nat := [514, 517, 542, 543, 540, 531, 532, 533, 513, 688, 689, 690, 660, 657, 658, 659, 656, 640, 523, 641, 642, 643, 634, 552]
theorem nwl_X7_whoHid_r2 : nwp_X7_whoHid_r2.map nw = wsX7_whoHid_r2 := nw_c nwe_514 (nw_c nwe_517 (nw_c nwe_542 (nw_c nwe_543 (nw_c nwe_540 (nw_c nwe_531 (nw_c nwe_532 (nw_c nwe_533 (nw_c nwe_513 (nw_c nwe_688 (nw_c nwe_689 (nw_c nwe_690 (nw_c nwe_660 (nw_c nwe_657 (nw_c nwe_658 (nw_c nwe_659 (nw_c nwe_656 (nw_c nwe_640 (nw_c nwe_523 (nw_c nwe_641 (nw_c nwe_642 (nw_c nwe_643 (nw_c nwe_634 (nw_c nwe_552 nw_n)))))))))))))))))))))))
def nwp_X7_whoHid_r3 : List Nat := [553, 554, 549, 644, 645, 646, 638, 522, 622, 623, 539, 632, 633, 627, 635, 636, 637, 628, 629, 630, 631, 626, 520, 608]
theorem nwl_X7_whoHid_r3 : nwp_X7_whoHid_r3.map nw = wsX7_whoHid_r3 := nw_c nwe_553 (nw_c nwe_554 (nw_c nwe_549 (nw_c nwe_644 (nw_c nwe_645 (nw_c nwe_646 (nw_c nwe_638 (nw_c nwe_522 (nw_c nwe_622 (nw_c nwe_623 (nw_c nwe_539 (nw_c nwe_632 (nw_c nwe_633 (nw_c nwe_627 (nw_c nwe_635 (nw_c nwe_636 (nw_c nwe_637 (nw_c nwe_628 (nw_c nwe_629 (nw_c nwe_630 (nw_c nwe_631 (nw_c nwe_626 (nw_c nwe_520 (nw_c nwe_608 nw_n)))))))))))))))))))))))
def nwp_X7_whoHid_r4 : List Nat := [609, 610, 605, 616, 617, 618, 612, 521, 613, 614, 611, 647, 648, 649, 625, 650, 651, 652, 639, 653, 654, 655, 624, 619]
theorem nwl_X7_whoHid_r4 : nwp_X7_whoHid_r4.map nw = wsX7_whoHid_r4 := nw_c nwe_609 (nw_c nwe_610 (nw_c nwe_605 (nw_c nwe_616 (nw_c nwe_617 (nw_c nwe_618 (nw_c nwe_612 (nw_c nwe_521 (nw_c nwe_613 (nw_c nwe_614 (nw_c nwe_611 (nw_c nwe_647 (nw_c nwe_648 (nw_c nwe_649 (nw_c nwe_625 (nw_c nwe_650 (nw_c nwe_651 (nw_c nwe_652 (nw_c nwe_639 (nw_c nwe_653 (nw_c nwe_654 (nw_c nwe_655 (nw_c nwe_624 (nw_c nwe_619 nw_n)))))))))))))))))))))))
def nwp_X7_whoHid_r5 : List Nat := [620, 621, 615, 702, 703, 704, 544]
theorem nwl_X7_whoHid_r5 : nwp_X7_whoHid_r5.map nw = wsX7_whoHid_r5 := nw_c nwe_620 (nw_c nwe_621 (nw_c nwe_615 (nw_c nwe_702 (nw_c nwe_703 (nw_c nwe_704 (nw_c nwe_544 nw_n))))))
def nwp_X7_whoHid : List Nat := 737 :: (((nwp_X7_whoHid_r1 ++ (nwp_X7_whoHid_r2 ++ (nwp_X7_whoHid_r3 ++ (nwp_X7_whoHid_r4 ++ nwp_X7_whoHid_r5)))) ++ nwp_X70))
theorem nwl_X7_whoHid : nwp_X7_whoHid.map nw = wsX7_whoHid := nw_c nwe_737 (nw_a (nw_a (nwl_X7_whoHid_r1) (nw_a (nwl_X7_whoHid_r2) (nw_a (nwl_X7_whoHid_r3) (nw_a (nwl_X7_whoHid_r4) (nwl_X7_whoHid_r5))))) (nwl_X70))
def nwp_X7_begins : List Nat := 738 :: (([739, 526] ++ nwp_X70))
theorem nwl_X7_begins : nwp_X7_begins.map nw = wsX7_begins := nw_c nwe_738 (nw_a (nw_c nwe_739 (nw_c nwe_526 nw_n)) (nwl_X70))
def nwp_X7_above : List Nat := 740 :: ([])
theorem nwl_X7_above : nwp_X7_above.map nw = wsX7_above := nw_c nwe_740 (nw_n)
def nwp_X7_kindNow : List Nat := 741 :: (([742, 552, 553, 554, 534, 549, 514] ++ nwp_X70))
theorem nwl_X7_kindNow : nwp_X7_kindNow.map nw = wsX7_kindNow := nw_c nwe_741 (nw_a (nw_c nwe_742 (nw_c nwe_552 (nw_c nwe_553 (nw_c nwe_554 (nw_c nwe_534 (nw_c nwe_549 (nw_c nwe_514 nw_n))))))) (nwl_X70))
def nwp_X7_mNow : List Nat := 743 :: (([742, 552, 553, 554, 534, 549, 514] ++ nwp_X70))
theorem nwl_X7_mNow : nwp_X7_mNow.map nw = wsX7_mNow := nw_c nwe_743 (nw_a (nw_c nwe_742 (nw_c nwe_552 (nw_c nwe_553 (nw_c nwe_554 (nw_c nwe_534 (nw_c nwe_549 (nw_c nwe_514 nw_n))))))) (nwl_X70))
def nwp_X7_leadsAs : List Nat := 744 :: (([742, 745, 746, 747, 534, 738, 739, 526, 748, 749, 740, 750, 751, 752] ++ nwp_X70))
theorem nwl_X7_leadsAs : nwp_X7_leadsAs.map nw = wsX7_leadsAs := nw_c nwe_744 (nw_a (nw_c nwe_742 (nw_c nwe_745 (nw_c nwe_746 (nw_c nwe_747 (nw_c nwe_534 (nw_c nwe_738 (nw_c nwe_739 (nw_c nwe_526 (nw_c nwe_748 (nw_c nwe_749 (nw_c nwe_740 (nw_c nwe_750 (nw_c nwe_751 (nw_c nwe_752 nw_n)))))))))))))) (nwl_X70))
def nwp_X7_feedsAs_r1 : List Nat := [745, 746, 747, 534, 738, 739, 526, 753, 754, 755, 741, 742, 552, 553, 554, 549, 514, 750, 751, 752, 744, 748, 749, 740]
theorem nwl_X7_feedsAs_r1 : nwp_X7_feedsAs_r1.map nw = wsX7_feedsAs_r1 := nw_c nwe_745 (nw_c nwe_746 (nw_c nwe_747 (nw_c nwe_534 (nw_c nwe_738 (nw_c nwe_739 (nw_c nwe_526 (nw_c nwe_753 (nw_c nwe_754 (nw_c nwe_755 (nw_c nwe_741 (nw_c nwe_742 (nw_c nwe_552 (nw_c nwe_553 (nw_c nwe_554 (nw_c nwe_549 (nw_c nwe_514 (nw_c nwe_750 (nw_c nwe_751 (nw_c nwe_752 (nw_c nwe_744 (nw_c nwe_748 (nw_c nwe_749 (nw_c nwe_740 nw_n)))))))))))))))))))))))
def nwp_X7_feedsAs_r2 : List Nat := [756, 757, 758, 759, 760, 761, 743]
theorem nwl_X7_feedsAs_r2 : nwp_X7_feedsAs_r2.map nw = wsX7_feedsAs_r2 := nw_c nwe_756 (nw_c nwe_757 (nw_c nwe_758 (nw_c nwe_759 (nw_c nwe_760 (nw_c nwe_761 (nw_c nwe_743 nw_n))))))
def nwp_X7_feedsAs : List Nat := 762 :: (((nwp_X7_feedsAs_r1 ++ nwp_X7_feedsAs_r2) ++ nwp_X70))
theorem nwl_X7_feedsAs : nwp_X7_feedsAs.map nw = wsX7_feedsAs := nw_c nwe_762 (nw_a (nw_a (nwl_X7_feedsAs_r1) (nwl_X7_feedsAs_r2)) (nwl_X70))
def nwp_X7_hidesAs_r1 : List Nat := [742, 745, 746, 747, 534, 738, 739, 526, 753, 754, 755, 741, 552, 553, 554, 549, 514, 756, 757, 758, 762, 750, 751, 752]
theorem nwl_X7_hidesAs_r1 : nwp_X7_hidesAs_r1.map nw = wsX7_hidesAs_r1 := nw_c nwe_742 (nw_c nwe_745 (nw_c nwe_746 (nw_c nwe_747 (nw_c nwe_534 (nw_c nwe_738 (nw_c nwe_739 (nw_c nwe_526 (nw_c nwe_753 (nw_c nwe_754 (nw_c nwe_755 (nw_c nwe_741 (nw_c nwe_552 (nw_c nwe_553 (nw_c nwe_554 (nw_c nwe_549 (nw_c nwe_514 (nw_c nwe_756 (nw_c nwe_757 (nw_c nwe_758 (nw_c nwe_762 (nw_c nwe_750 (nw_c nwe_751 (nw_c nwe_752 nw_n)))))))))))))))))))))))
def nwp_X7_hidesAs_r2 : List Nat := [744, 748, 749, 740, 759, 760, 761, 743, 763, 764, 765]
theorem nwl_X7_hidesAs_r2 : nwp_X7_hidesAs_r2.map nw = wsX7_hidesAs_r2 := nw_c nwe_744 (nw_c nwe_748 (nw_c nwe_749 (nw_c nwe_740 (nw_c nwe_759 (nw_c nwe_760 (nw_c nwe_761 (nw_c nwe_743 (nw_c nwe_763 (nw_c nwe_764 (nw_c nwe_765 nw_n))))))))))
def nwp_X7_hidesAs : List Nat := 766 :: (((nwp_X7_hidesAs_r1 ++ nwp_X7_hidesAs_r2) ++ nwp_X70))
theorem nwl_X7_hidesAs : nwp_X7_hidesAs.map nw = wsX7_hidesAs := nw_c nwe_766 (nw_a (nw_a (nwl_X7_hidesAs_r1) (nwl_X7_hidesAs_r2)) (nwl_X70))
def nwp_X7_partsAs_r1 : List Nat := [742, 767, 745, 746, 747, 534, 738, 739, 526, 759, 760, 761, 743, 552, 553, 554, 549, 514, 748, 749, 740, 768, 769, 770]
theorem nwl_X7_partsAs_r1 : nwp_X7_partsAs_r1.map nw = wsX7_partsAs_r1 := nw_c nwe_742 (nw_c nwe_767 (nw_c nwe_745 (nw_c nwe_746 (nw_c nwe_747 (nw_c nwe_534 (nw_c nwe_738 (nw_c nwe_739 (nw_c nwe_526 (nw_c nwe_759 (nw_c nwe_760 (nw_c nwe_761 (nw_c nwe_743 (nw_c nwe_552 (nw_c nwe_553 (nw_c nwe_554 (nw_c nwe_549 (nw_c nwe_514 (nw_c nwe_748 (nw_c nwe_749 (nw_c nwe_740 (nw_c nwe_768 (nw_c nwe_769 (nw_c nwe_770 nw_n)))))))))))))))))))))))
def nwp_X7_partsAs_r2 : List Nat := [753, 754, 755, 741, 756, 757, 758, 762, 750, 751, 752, 744]
theorem nwl_X7_partsAs_r2 : nwp_X7_partsAs_r2.map nw = wsX7_partsAs_r2 := nw_c nwe_753 (nw_c nwe_754 (nw_c nwe_755 (nw_c nwe_741 (nw_c nwe_756 (nw_c nwe_757 (nw_c nwe_758 (nw_c nwe_762 (nw_c nwe_750 (nw_c nwe_751 (nw_c nwe_752 (nw_c nwe_744 nw_n)))))))))))
def nwp_X7_partsAs : List Nat := 771 :: (((nwp_X7_partsAs_r1 ++ nwp_X7_partsAs_r2) ++ nwp_X70))
theorem nwl_X7_partsAs : nwp_X7_partsAs.map nw = wsX7_partsAs := nw_c nwe_771 (nw_a (nw_a (nwl_X7_partsAs_r1) (nwl_X7_partsAs_r2)) (nwl_X70))
def nwp_X7_voice_r1 : List Nat := [739, 742, 767, 670, 671, 534, 548, 546, 547, 538, 558, 559, 560, 536, 518, 537, 753, 754, 755, 741, 552, 553, 554, 549]
theorem nwl_X7_voice_r1 : nwp_X7_voice_r1.map nw = wsX7_voice_r1 := nw_c nwe_739 (nw_c nwe_742 (nw_c nwe_767 (nw_c nwe_670 (nw_c nwe_671 (nw_c nwe_534 (nw_c nwe_548 (nw_c nwe_546 (nw_c nwe_547 (nw_c nwe_538 (nw_c nwe_558 (nw_c nwe_559 (nw_c nwe_560 (nw_c nwe_536 (nw_c nwe_518 (nw_c nwe_537 (nw_c nwe_753 (nw_c nwe_754 (nw_c nwe_755 (nw_c nwe_741 (nw_c nwe_552 (nw_c nwe_553 (nw_c nwe_554 (nw_c nwe_549 nw_n)))))))))))))))))))))))
def nwp_X7_voice_r2 : List Nat := [514, 750, 751, 752, 744, 745, 746, 747, 738, 526, 748, 749, 740, 756, 757, 758, 762, 759, 760, 761, 743, 763, 764, 765]
theorem nwl_X7_voice_r2 : nwp_X7_voice_r2.map nw = wsX7_voice_r2 := nw_c nwe_514 (nw_c nwe_750 (nw_c nwe_751 (nw_c nwe_752 (nw_c nwe_744 (nw_c nwe_745 (nw_c nwe_746 (nw_c nwe_747 (nw_c nwe_738 (nw_c nwe_526 (nw_c nwe_748 (nw_c nwe_749 (nw_c nwe_740 (nw_c nwe_756 (nw_c nwe_757 (nw_c nwe_758 (nw_c nwe_762 (nw_c nwe_759 (nw_c nwe_760 (nw_c nwe_761 (nw_c nwe_743 (nw_c nwe_763 (nw_c nwe_764 (nw_c nwe_765 nw_n)))))))))))))))))))))))
def nwp_X7_voice_r3 : List Nat := [766, 768, 769, 770, 771]
theorem nwl_X7_voice_r3 : nwp_X7_voice_r3.map nw = wsX7_voice_r3 := nw_c nwe_766 (nw_c nwe_768 (nw_c nwe_769 (nw_c nwe_770 (nw_c nwe_771 nw_n))))
def nwp_X7_voice : List Nat := 772 :: (((nwp_X7_voice_r1 ++ (nwp_X7_voice_r2 ++ nwp_X7_voice_r3)) ++ nwp_X70))
theorem nwl_X7_voice : nwp_X7_voice.map nw = wsX7_voice := nw_c nwe_772 (nw_a (nw_a (nwl_X7_voice_r1) (nw_a (nwl_X7_voice_r2) (nwl_X7_voice_r3))) (nwl_X70))
def nwp_X7_body : List Nat := 773 :: (([739, 526, 546, 547, 534, 538, 558, 559, 560, 536, 518, 537] ++ nwp_X70))
theorem nwl_X7_body : nwp_X7_body.map nw = wsX7_body := nw_c nwe_773 (nw_a (nw_c nwe_739 (nw_c nwe_526 (nw_c nwe_546 (nw_c nwe_547 (nw_c nwe_534 (nw_c nwe_538 (nw_c nwe_558 (nw_c nwe_559 (nw_c nwe_560 (nw_c nwe_536 (nw_c nwe_518 (nw_c nwe_537 nw_n)))))))))))) (nwl_X70))
def nwp_X7_sheet : List Nat := 774 :: (([527, 528, 529, 732, 733, 534, 731, 546, 547, 538, 558, 559, 560, 536, 518, 537] ++ nwp_X70))
theorem nwl_X7_sheet : nwp_X7_sheet.map nw = wsX7_sheet := nw_c nwe_774 (nw_a (nw_c nwe_527 (nw_c nwe_528 (nw_c nwe_529 (nw_c nwe_732 (nw_c nwe_733 (nw_c nwe_534 (nw_c nwe_731 (nw_c nwe_546 (nw_c nwe_547 (nw_c nwe_538 (nw_c nwe_558 (nw_c nwe_559 (nw_c nwe_560 (nw_c nwe_536 (nw_c nwe_518 (nw_c nwe_537 nw_n)))))))))))))))) (nwl_X70))
def nwp_X7_put : List Nat := 775 :: (([527, 528, 529, 732, 733, 534, 731, 546, 547, 538, 558, 559, 560, 536, 518, 537] ++ nwp_X70))
theorem nwl_X7_put : nwp_X7_put.map nw = wsX7_put := nw_c nwe_775 (nw_a (nw_c nwe_527 (nw_c nwe_528 (nw_c nwe_529 (nw_c nwe_732 (nw_c nwe_733 (nw_c nwe_534 (nw_c nwe_731 (nw_c nwe_546 (nw_c nwe_547 (nw_c nwe_538 (nw_c nwe_558 (nw_c nwe_559 (nw_c nwe_560 (nw_c nwe_536 (nw_c nwe_518 (nw_c nwe_537 nw_n)))))))))))))))) (nwl_X70))
def nwp_X7_move : List Nat := 776 :: (([527, 528, 530, 529, 732, 733, 534, 731, 546, 547, 538, 558, 559, 560, 536, 518, 537] ++ nwp_X70))
theorem nwl_X7_move : nwp_X7_move.map nw = wsX7_move := nw_c nwe_776 (nw_a (nw_c nwe_527 (nw_c nwe_528 (nw_c nwe_530 (nw_c nwe_529 (nw_c nwe_732 (nw_c nwe_733 (nw_c nwe_534 (nw_c nwe_731 (nw_c nwe_546 (nw_c nwe_547 (nw_c nwe_538 (nw_c nwe_558 (nw_c nwe_559 (nw_c nwe_560 (nw_c nwe_536 (nw_c nwe_518 (nw_c nwe_537 nw_n))))))))))))))))) (nwl_X70))
def nwp_X7_lacks : List Nat := 777 :: (([527, 732, 733, 534, 731, 546, 547, 538] ++ nwp_X70))
theorem nwl_X7_lacks : nwp_X7_lacks.map nw = wsX7_lacks := nw_c nwe_777 (nw_a (nw_c nwe_527 (nw_c nwe_732 (nw_c nwe_733 (nw_c nwe_534 (nw_c nwe_731 (nw_c nwe_546 (nw_c nwe_547 (nw_c nwe_538 nw_n)))))))) (nwl_X70))
def nwp_X7_unders : List Nat := 778 :: (([528, 529, 514, 779, 780, 781, 534, 777, 527, 732, 733, 731, 546, 547, 538, 558, 559, 560, 536, 518, 537] ++ nwp_X70))
theorem nwl_X7_unders : nwp_X7_unders.map nw = wsX7_unders := nw_c nwe_778 (nw_a (nw_c nwe_528 (nw_c nwe_529 (nw_c nwe_514 (nw_c nwe_779 (nw_c nwe_780 (nw_c nwe_781 (nw_c nwe_534 (nw_c nwe_777 (nw_c nwe_527 (nw_c nwe_732 (nw_c nwe_733 (nw_c nwe_731 (nw_c nwe_546 (nw_c nwe_547 (nw_c nwe_538 (nw_c nwe_558 (nw_c nwe_559 (nw_c nwe_560 (nw_c nwe_536 (nw_c nwe_518 (nw_c nwe_537 nw_n))))))))))))))))))))) (nwl_X70))
def nwp_X7_judge_r1 : List Nat := [528, 529, 514, 779, 780, 781, 534, 777, 527, 732, 733, 731, 546, 547, 538, 558, 559, 560, 536, 518, 537, 699, 700, 701]
theorem nwl_X7_judge_r1 : nwp_X7_judge_r1.map nw = wsX7_judge_r1 := nw_c nwe_528 (nw_c nwe_529 (nw_c nwe_514 (nw_c nwe_779 (nw_c nwe_780 (nw_c nwe_781 (nw_c nwe_534 (nw_c nwe_777 (nw_c nwe_527 (nw_c nwe_732 (nw_c nwe_733 (nw_c nwe_731 (nw_c nwe_546 (nw_c nwe_547 (nw_c nwe_538 (nw_c nwe_558 (nw_c nwe_559 (nw_c nwe_560 (nw_c nwe_536 (nw_c nwe_518 (nw_c nwe_537 (nw_c nwe_699 (nw_c nwe_700 (nw_c nwe_701 nw_n)))))))))))))))))))))))
def nwp_X7_judge_r2 : List Nat := [541, 517, 542, 543, 540, 657, 658, 659, 656, 640, 523, 641, 642, 643, 634, 552, 553, 554, 549, 644, 645, 646, 638, 522]
theorem nwl_X7_judge_r2 : nwp_X7_judge_r2.map nw = wsX7_judge_r2 := nw_c nwe_541 (nw_c nwe_517 (nw_c nwe_542 (nw_c nwe_543 (nw_c nwe_540 (nw_c nwe_657 (nw_c nwe_658 (nw_c nwe_659 (nw_c nwe_656 (nw_c nwe_640 (nw_c nwe_523 (nw_c nwe_641 (nw_c nwe_642 (nw_c nwe_643 (nw_c nwe_634 (nw_c nwe_552 (nw_c nwe_553 (nw_c nwe_554 (nw_c nwe_549 (nw_c nwe_644 (nw_c nwe_645 (nw_c nwe_646 (nw_c nwe_638 (nw_c nwe_522 nw_n)))))))))))))))))))))))
def nwp_X7_judge_r3 : List Nat := [622, 623, 539, 632, 633, 627, 635, 636, 637, 628, 629, 630, 631, 626, 520, 608, 609, 610, 605, 616, 617, 618, 612, 521]
theorem nwl_X7_judge_r3 : nwp_X7_judge_r3.map nw = wsX7_judge_r3 := nw_c nwe_622 (nw_c nwe_623 (nw_c nwe_539 (nw_c nwe_632 (nw_c nwe_633 (nw_c nwe_627 (nw_c nwe_635 (nw_c nwe_636 (nw_c nwe_637 (nw_c nwe_628 (nw_c nwe_629 (nw_c nwe_630 (nw_c nwe_631 (nw_c nwe_626 (nw_c nwe_520 (nw_c nwe_608 (nw_c nwe_609 (nw_c nwe_610 (nw_c nwe_605 (nw_c nwe_616 (nw_c nwe_617 (nw_c nwe_618 (nw_c nwe_612 (nw_c nwe_521 nw_n)))))))))))))))))))))))
def nwp_X7_judge_r4 : List Nat := [613, 614, 611, 647, 648, 649, 625, 531, 532, 533, 513, 650, 651, 652, 639, 653, 654, 655, 624, 619, 620, 621, 615, 702]
theorem nwl_X7_judge_r4 : nwp_X7_judge_r4.map nw = wsX7_judge_r4 := nw_c nwe_613 (nw_c nwe_614 (nw_c nwe_611 (nw_c nwe_647 (nw_c nwe_648 (nw_c nwe_649 (nw_c nwe_625 (nw_c nwe_531 (nw_c nwe_532 (nw_c nwe_533 (nw_c nwe_513 (nw_c nwe_650 (nw_c nwe_651 (nw_c nwe_652 (nw_c nwe_639 (nw_c nwe_653 (nw_c nwe_654 (nw_c nwe_655 (nw_c nwe_624 (nw_c nwe_619 (nw_c nwe_620 (nw_c nwe_621 (nw_c nwe_615 (nw_c nwe_702 nw_n)))))))))))))))))))))))
def nwp_X7_judge_r5 : List Nat := [703, 704, 544]
theorem nwl_X7_judge_r5 : nwp_X7_judge_r5.map nw = wsX7_judge_r5 := nw_c nwe_703 (nw_c nwe_704 (nw_c nwe_544 nw_n))
def nwp_X7_judge : List Nat := 782 :: (((nwp_X7_judge_r1 ++ (nwp_X7_judge_r2 ++ (nwp_X7_judge_r3 ++ (nwp_X7_judge_r4 ++ nwp_X7_judge_r5)))) ++ nwp_X70))
theorem nwl_X7_judge : nwp_X7_judge.map nw = wsX7_judge := nw_c nwe_782 (nw_a (nw_a (nwl_X7_judge_r1) (nw_a (nwl_X7_judge_r2) (nw_a (nwl_X7_judge_r3) (nw_a (nwl_X7_judge_r4) (nwl_X7_judge_r5))))) (nwl_X70))
def nwp_X7_image : List Nat := 783 :: (([514, 516, 784, 542, 543, 534, 540] ++ nwp_X70))
theorem nwl_X7_image : nwp_X7_image.map nw = wsX7_image := nw_c nwe_783 (nw_a (nw_c nwe_514 (nw_c nwe_516 (nw_c nwe_784 (nw_c nwe_542 (nw_c nwe_543 (nw_c nwe_534 (nw_c nwe_540 nw_n))))))) (nwl_X70))
def nwp_X7_restore : List Nat := 785 :: (([784, 516, 514, 558, 559, 560, 534, 536, 518, 537, 542, 543, 540] ++ nwp_X70))
theorem nwl_X7_restore : nwp_X7_restore.map nw = wsX7_restore := nw_c nwe_785 (nw_a (nw_c nwe_784 (nw_c nwe_516 (nw_c nwe_514 (nw_c nwe_558 (nw_c nwe_559 (nw_c nwe_560 (nw_c nwe_534 (nw_c nwe_536 (nw_c nwe_518 (nw_c nwe_537 (nw_c nwe_542 (nw_c nwe_543 (nw_c nwe_540 nw_n))))))))))))) (nwl_X70))
def nwp_X7_tell : List Nat := 786 :: (([514, 558, 559, 560, 534, 536, 518, 537] ++ nwp_X70))
theorem nwl_X7_tell : nwp_X7_tell.map nw = wsX7_tell := nw_c nwe_786 (nw_a (nw_c nwe_514 (nw_c nwe_558 (nw_c nwe_559 (nw_c nwe_560 (nw_c nwe_534 (nw_c nwe_536 (nw_c nwe_518 (nw_c nwe_537 nw_n)))))))) (nwl_X70))
def nwp_X7_check_r1 : List Nat := [514, 699, 700, 701, 534, 541, 517, 542, 543, 540, 657, 658, 659, 656, 640, 523, 641, 642, 643, 634, 552, 553, 554, 549]
theorem nwl_X7_check_r1 : nwp_X7_check_r1.map nw = wsX7_check_r1 := nw_c nwe_514 (nw_c nwe_699 (nw_c nwe_700 (nw_c nwe_701 (nw_c nwe_534 (nw_c nwe_541 (nw_c nwe_517 (nw_c nwe_542 (nw_c nwe_543 (nw_c nwe_540 (nw_c nwe_657 (nw_c nwe_658 (nw_c nwe_659 (nw_c nwe_656 (nw_c nwe_640 (nw_c nwe_523 (nw_c nwe_641 (nw_c nwe_642 (nw_c nwe_643 (nw_c nwe_634 (nw_c nwe_552 (nw_c nwe_553 (nw_c nwe_554 (nw_c nwe_549 nw_n)))))))))))))))))))))))
def nwp_X7_check_r2 : List Nat := [644, 645, 646, 638, 522, 622, 623, 539, 632, 633, 627, 635, 636, 637, 628, 629, 630, 631, 626, 520, 608, 609, 610, 605]
theorem nwl_X7_check_r2 : nwp_X7_check_r2.map nw = wsX7_check_r2 := nw_c nwe_644 (nw_c nwe_645 (nw_c nwe_646 (nw_c nwe_638 (nw_c nwe_522 (nw_c nwe_622 (nw_c nwe_623 (nw_c nwe_539 (nw_c nwe_632 (nw_c nwe_633 (nw_c nwe_627 (nw_c nwe_635 (nw_c nwe_636 (nw_c nwe_637 (nw_c nwe_628 (nw_c nwe_629 (nw_c nwe_630 (nw_c nwe_631 (nw_c nwe_626 (nw_c nwe_520 (nw_c nwe_608 (nw_c nwe_609 (nw_c nwe_610 (nw_c nwe_605 nw_n)))))))))))))))))))))))
def nwp_X7_check_r3 : List Nat := [616, 617, 618, 612, 521, 613, 614, 611, 647, 648, 649, 625, 531, 532, 533, 513, 650, 651, 652, 639, 653, 654, 655, 624]
theorem nwl_X7_check_r3 : nwp_X7_check_r3.map nw = wsX7_check_r3 := nw_c nwe_616 (nw_c nwe_617 (nw_c nwe_618 (nw_c nwe_612 (nw_c nwe_521 (nw_c nwe_613 (nw_c nwe_614 (nw_c nwe_611 (nw_c nwe_647 (nw_c nwe_648 (nw_c nwe_649 (nw_c nwe_625 (nw_c nwe_531 (nw_c nwe_532 (nw_c nwe_533 (nw_c nwe_513 (nw_c nwe_650 (nw_c nwe_651 (nw_c nwe_652 (nw_c nwe_639 (nw_c nwe_653 (nw_c nwe_654 (nw_c nwe_655 (nw_c nwe_624 nw_n)))))))))))))))))))))))
def nwp_X7_check_r4 : List Nat := [619, 620, 621, 615, 702, 703, 704, 544]
theorem nwl_X7_check_r4 : nwp_X7_check_r4.map nw = wsX7_check_r4 := nw_c nwe_619 (nw_c nwe_620 (nw_c nwe_621 (nw_c nwe_615 (nw_c nwe_702 (nw_c nwe_703 (nw_c nwe_704 (nw_c nwe_544 nw_n)))))))
def nwp_X7_check : List Nat := 787 :: (((nwp_X7_check_r1 ++ (nwp_X7_check_r2 ++ (nwp_X7_check_r3 ++ nwp_X7_check_r4))) ++ nwp_X70))
theorem nwl_X7_check : nwp_X7_check.map nw = wsX7_check := nw_c nwe_787 (nw_a (nw_a (nwl_X7_check_r1) (nw_a (nwl_X7_check_r2) (nw_a (nwl_X7_check_r3) (nwl_X7_check_r4)))) (nwl_X70))
def nwp_X7_count_r1 : List Nat := [514, 739, 641, 642, 643, 534, 634, 552, 553, 554, 549, 707, 708, 709, 555, 715, 716, 717, 551, 558, 559, 560, 536, 518]
theorem nwl_X7_count_r1 : nwp_X7_count_r1.map nw = wsX7_count_r1 := nw_c nwe_514 (nw_c nwe_739 (nw_c nwe_641 (nw_c nwe_642 (nw_c nwe_643 (nw_c nwe_534 (nw_c nwe_634 (nw_c nwe_552 (nw_c nwe_553 (nw_c nwe_554 (nw_c nwe_549 (nw_c nwe_707 (nw_c nwe_708 (nw_c nwe_709 (nw_c nwe_555 (nw_c nwe_715 (nw_c nwe_716 (nw_c nwe_717 (nw_c nwe_551 (nw_c nwe_558 (nw_c nwe_559 (nw_c nwe_560 (nw_c nwe_536 (nw_c nwe_518 nw_n)))))))))))))))))))))))
def nwp_X7_count_r2 : List Nat := [537]
theorem nwl_X7_count_r2 : nwp_X7_count_r2.map nw = wsX7_count_r2 := nw_c nwe_537 nw_n
def nwp_X7_count : List Nat := 788 :: (((nwp_X7_count_r1 ++ nwp_X7_count_r2) ++ nwp_X70))
theorem nwl_X7_count : nwp_X7_count.map nw = wsX7_count := nw_c nwe_788 (nw_a (nw_a (nwl_X7_count_r1) (nwl_X7_count_r2)) (nwl_X70))
def nwp_X7_told : List Nat := 789 :: (([518, 546, 547, 534, 538, 558, 559, 560, 536, 537] ++ nwp_X70))
theorem nwl_X7_told : nwp_X7_told.map nw = wsX7_told := nw_c nwe_789 (nw_a (nw_c nwe_518 (nw_c nwe_546 (nw_c nwe_547 (nw_c nwe_534 (nw_c nwe_538 (nw_c nwe_558 (nw_c nwe_559 (nw_c nwe_560 (nw_c nwe_536 (nw_c nwe_537 nw_n)))))))))) (nwl_X70))
def nwp_J9_abs_0f7a4 : List Nat := 790 :: ([])
theorem nwl_J9_abs_0f7a4 : nwp_J9_abs_0f7a4.map nw = wsJ9_abs_0f7a4 := nw_c nwe_790 (nw_n)
def nwp_J9_max_7cf53 : List Nat := 791 :: ([])
theorem nwl_J9_max_7cf53 : nwp_J9_max_7cf53.map nw = wsJ9_max_7cf53 := nw_c nwe_791 (nw_n)
def nwp_J9_min_7cf53 : List Nat := 792 :: ([])
theorem nwl_J9_min_7cf53 : nwp_J9_min_7cf53.map nw = wsJ9_min_7cf53 := nw_c nwe_792 (nw_n)
def nwp_L_law_r1 : List Nat := [793, 794, 363, 795, 796, 534, 797, 798, 799, 358, 326, 74, 75, 327, 328, 259, 329, 330, 86, 87, 331, 332, 333, 334]
theorem nwl_L_law_r1 : nwp_L_law_r1.map nw = wsL_law_r1 := nw_c nwe_793 (nw_c nwe_794 (nw_c nwe_363 (nw_c nwe_795 (nw_c nwe_796 (nw_c nwe_534 (nw_c nwe_797 (nw_c nwe_798 (nw_c nwe_799 (nw_c nwe_358 (nw_c nwe_326 (nw_c nwe_74 (nw_c nwe_75 (nw_c nwe_327 (nw_c nwe_328 (nw_c nwe_259 (nw_c nwe_329 (nw_c nwe_330 (nw_c nwe_86 (nw_c nwe_87 (nw_c nwe_331 (nw_c nwe_332 (nw_c nwe_333 (nw_c nwe_334 nw_n)))))))))))))))))))))))
def nwp_L_law_r2 : List Nat := [335, 336, 337, 338, 81, 339, 340, 341, 342, 114, 343, 344, 345, 208, 346, 347, 348, 349, 350, 351, 352, 353, 251, 229]
theorem nwl_L_law_r2 : nwp_L_law_r2.map nw = wsL_law_r2 := nw_c nwe_335 (nw_c nwe_336 (nw_c nwe_337 (nw_c nwe_338 (nw_c nwe_81 (nw_c nwe_339 (nw_c nwe_340 (nw_c nwe_341 (nw_c nwe_342 (nw_c nwe_114 (nw_c nwe_343 (nw_c nwe_344 (nw_c nwe_345 (nw_c nwe_208 (nw_c nwe_346 (nw_c nwe_347 (nw_c nwe_348 (nw_c nwe_349 (nw_c nwe_350 (nw_c nwe_351 (nw_c nwe_352 (nw_c nwe_353 (nw_c nwe_251 (nw_c nwe_229 nw_n)))))))))))))))))))))))
def nwp_L_law_r3 : List Nat := [230, 231, 232, 233, 234, 235, 236, 237, 238, 239, 192, 240, 241, 242, 243, 244, 245, 246, 247, 248, 249, 178, 179, 180]
theorem nwl_L_law_r3 : nwp_L_law_r3.map nw = wsL_law_r3 := nw_c nwe_230 (nw_c nwe_231 (nw_c nwe_232 (nw_c nwe_233 (nw_c nwe_234 (nw_c nwe_235 (nw_c nwe_236 (nw_c nwe_237 (nw_c nwe_238 (nw_c nwe_239 (nw_c nwe_192 (nw_c nwe_240 (nw_c nwe_241 (nw_c nwe_242 (nw_c nwe_243 (nw_c nwe_244 (nw_c nwe_245 (nw_c nwe_246 (nw_c nwe_247 (nw_c nwe_248 (nw_c nwe_249 (nw_c nwe_178 (nw_c nwe_179 (nw_c nwe_180 nw_n)))))))))))))))))))))))
def nwp_L_law_r4 : List Nat := [181, 182, 183, 93, 72, 73, 76, 77, 78, 79, 80, 82, 250, 172, 173, 167, 354, 355, 83, 84, 85, 88, 89, 90]
theorem nwl_L_law_r4 : nwp_L_law_r4.map nw = wsL_law_r4 := nw_c nwe_181 (nw_c nwe_182 (nw_c nwe_183 (nw_c nwe_93 (nw_c nwe_72 (nw_c nwe_73 (nw_c nwe_76 (nw_c nwe_77 (nw_c nwe_78 (nw_c nwe_79 (nw_c nwe_80 (nw_c nwe_82 (nw_c nwe_250 (nw_c nwe_172 (nw_c nwe_173 (nw_c nwe_167 (nw_c nwe_354 (nw_c nwe_355 (nw_c nwe_83 (nw_c nwe_84 (nw_c nwe_85 (nw_c nwe_88 (nw_c nwe_89 (nw_c nwe_90 nw_n)))))))))))))))))))))))
def nwp_L_law_r5 : List Nat := [91, 92, 356, 195, 196, 197, 198, 199, 200, 201, 202, 203, 357, 161, 162, 163, 164, 165, 800, 801, 535, 515, 514, 516]
theorem nwl_L_law_r5 : nwp_L_law_r5.map nw = wsL_law_r5 := nw_c nwe_91 (nw_c nwe_92 (nw_c nwe_356 (nw_c nwe_195 (nw_c nwe_196 (nw_c nwe_197 (nw_c nwe_198 (nw_c nwe_199 (nw_c nwe_200 (nw_c nwe_201 (nw_c nwe_202 (nw_c nwe_203 (nw_c nwe_357 (nw_c nwe_161 (nw_c nwe_162 (nw_c nwe_163 (nw_c nwe_164 (nw_c nwe_165 (nw_c nwe_800 (nw_c nwe_801 (nw_c nwe_535 (nw_c nwe_515 (nw_c nwe_514 (nw_c nwe_516 nw_n)))))))))))))))))))))))
def nwp_L_law_r6 : List Nat := [517, 518, 519, 520, 521, 522, 523, 524, 525, 526, 527, 528, 529, 530, 531, 532, 533, 513, 802, 803, 804, 367, 368, 369]
theorem nwl_L_law_r6 : nwp_L_law_r6.map nw = wsL_law_r6 := nw_c nwe_517 (nw_c nwe_518 (nw_c nwe_519 (nw_c nwe_520 (nw_c nwe_521 (nw_c nwe_522 (nw_c nwe_523 (nw_c nwe_524 (nw_c nwe_525 (nw_c nwe_526 (nw_c nwe_527 (nw_c nwe_528 (nw_c nwe_529 (nw_c nwe_530 (nw_c nwe_531 (nw_c nwe_532 (nw_c nwe_533 (nw_c nwe_513 (nw_c nwe_802 (nw_c nwe_803 (nw_c nwe_804 (nw_c nwe_367 (nw_c nwe_368 (nw_c nwe_369 nw_n)))))))))))))))))))))))
def nwp_L_law_r7 : List Nat := [370, 371, 360, 361, 362, 359, 372, 373, 374, 364, 365, 375, 376, 366, 805, 806, 807, 661, 662, 663, 545, 546, 547, 538]
theorem nwl_L_law_r7 : nwp_L_law_r7.map nw = wsL_law_r7 := nw_c nwe_370 (nw_c nwe_371 (nw_c nwe_360 (nw_c nwe_361 (nw_c nwe_362 (nw_c nwe_359 (nw_c nwe_372 (nw_c nwe_373 (nw_c nwe_374 (nw_c nwe_364 (nw_c nwe_365 (nw_c nwe_375 (nw_c nwe_376 (nw_c nwe_366 (nw_c nwe_805 (nw_c nwe_806 (nw_c nwe_807 (nw_c nwe_661 (nw_c nwe_662 (nw_c nwe_663 (nw_c nwe_545 (nw_c nwe_546 (nw_c nwe_547 (nw_c nwe_538 nw_n)))))))))))))))))))))))
def nwp_L_law_r8 : List Nat := [558, 559, 560, 536, 537, 664, 665, 666, 550, 808, 809, 810, 378, 377, 282, 283, 280, 274, 275, 276, 184, 185, 277, 278]
theorem nwl_L_law_r8 : nwp_L_law_r8.map nw = wsL_law_r8 := nw_c nwe_558 (nw_c nwe_559 (nw_c nwe_560 (nw_c nwe_536 (nw_c nwe_537 (nw_c nwe_664 (nw_c nwe_665 (nw_c nwe_666 (nw_c nwe_550 (nw_c nwe_808 (nw_c nwe_809 (nw_c nwe_810 (nw_c nwe_378 (nw_c nwe_377 (nw_c nwe_282 (nw_c nwe_283 (nw_c nwe_280 (nw_c nwe_274 (nw_c nwe_275 (nw_c nwe_276 (nw_c nwe_184 (nw_c nwe_185 (nw_c nwe_277 (nw_c nwe_278 nw_n)))))))))))))))))))))))
def nwp_L_law_r9 : List Nat := [279, 188, 189, 106, 107, 102, 190, 191, 186, 193, 194, 187, 811, 812, 813, 667, 629, 630, 631, 626, 608, 609, 610, 605]
theorem nwl_L_law_r9 : nwp_L_law_r9.map nw = wsL_law_r9 := nw_c nwe_279 (nw_c nwe_188 (nw_c nwe_189 (nw_c nwe_106 (nw_c nwe_107 (nw_c nwe_102 (nw_c nwe_190 (nw_c nwe_191 (nw_c nwe_186 (nw_c nwe_193 (nw_c nwe_194 (nw_c nwe_187 (nw_c nwe_811 (nw_c nwe_812 (nw_c nwe_813 (nw_c nwe_667 (nw_c nwe_629 (nw_c nwe_630 (nw_c nwe_631 (nw_c nwe_626 (nw_c nwe_608 (nw_c nwe_609 (nw_c nwe_610 (nw_c nwe_605 nw_n)))))))))))))))))))))))
def nwp_L_law_r10 : List Nat := [616, 617, 618, 612, 613, 614, 611, 814, 815, 816, 379, 380, 817, 818, 819, 668, 820, 821, 822, 381, 382, 383, 823, 824]
theorem nwl_L_law_r10 : nwp_L_law_r10.map nw = wsL_law_r10 := nw_c nwe_616 (nw_c nwe_617 (nw_c nwe_618 (nw_c nwe_612 (nw_c nwe_613 (nw_c nwe_614 (nw_c nwe_611 (nw_c nwe_814 (nw_c nwe_815 (nw_c nwe_816 (nw_c nwe_379 (nw_c nwe_380 (nw_c nwe_817 (nw_c nwe_818 (nw_c nwe_819 (nw_c nwe_668 (nw_c nwe_820 (nw_c nwe_821 (nw_c nwe_822 (nw_c nwe_381 (nw_c nwe_382 (nw_c nwe_383 (nw_c nwe_823 (nw_c nwe_824 nw_n)))))))))))))))))))))))
def nwp_L_law_r11 : List Nat := [825, 669, 670, 671, 548, 552, 553, 554, 549, 826, 827, 828, 387, 384, 385, 386, 265, 266, 267, 262, 263, 96, 97, 264]
theorem nwl_L_law_r11 : nwp_L_law_r11.map nw = wsL_law_r11 := nw_c nwe_825 (nw_c nwe_669 (nw_c nwe_670 (nw_c nwe_671 (nw_c nwe_548 (nw_c nwe_552 (nw_c nwe_553 (nw_c nwe_554 (nw_c nwe_549 (nw_c nwe_826 (nw_c nwe_827 (nw_c nwe_828 (nw_c nwe_387 (nw_c nwe_384 (nw_c nwe_385 (nw_c nwe_386 (nw_c nwe_265 (nw_c nwe_266 (nw_c nwe_267 (nw_c nwe_262 (nw_c nwe_263 (nw_c nwe_96 (nw_c nwe_97 (nw_c nwe_264 nw_n)))))))))))))))))))))))
def nwp_L_law_r12 : List Nat := [829, 830, 831, 672, 832, 833, 834, 390, 391, 392, 388, 389, 835, 836, 837, 674, 675, 676, 673, 838, 839, 840, 393, 394]
theorem nwl_L_law_r12 : nwp_L_law_r12.map nw = wsL_law_r12 := nw_c nwe_829 (nw_c nwe_830 (nw_c nwe_831 (nw_c nwe_672 (nw_c nwe_832 (nw_c nwe_833 (nw_c nwe_834 (nw_c nwe_390 (nw_c nwe_391 (nw_c nwe_392 (nw_c nwe_388 (nw_c nwe_389 (nw_c nwe_835 (nw_c nwe_836 (nw_c nwe_837 (nw_c nwe_674 (nw_c nwe_675 (nw_c nwe_676 (nw_c nwe_673 (nw_c nwe_838 (nw_c nwe_839 (nw_c nwe_840 (nw_c nwe_393 (nw_c nwe_394 nw_n)))))))))))))))))))))))
def nwp_L_law_r13 : List Nat := [395, 396, 397, 268, 841, 842, 843, 681, 678, 679, 680, 677, 844, 845, 846, 398, 399, 847, 848, 849, 682, 850, 851, 852]
theorem nwl_L_law_r13 : nwp_L_law_r13.map nw = wsL_law_r13 := nw_c nwe_395 (nw_c nwe_396 (nw_c nwe_397 (nw_c nwe_268 (nw_c nwe_841 (nw_c nwe_842 (nw_c nwe_843 (nw_c nwe_681 (nw_c nwe_678 (nw_c nwe_679 (nw_c nwe_680 (nw_c nwe_677 (nw_c nwe_844 (nw_c nwe_845 (nw_c nwe_846 (nw_c nwe_398 (nw_c nwe_399 (nw_c nwe_847 (nw_c nwe_848 (nw_c nwe_849 (nw_c nwe_682 (nw_c nwe_850 (nw_c nwe_851 (nw_c nwe_852 nw_n)))))))))))))))))))))))
def nwp_L_law_r14 : List Nat := [400, 401, 402, 853, 854, 855, 683, 856, 857, 858, 403, 404, 405, 116, 117, 108, 859, 860, 861, 556, 557, 862, 863, 864]
theorem nwl_L_law_r14 : nwp_L_law_r14.map nw = wsL_law_r14 := nw_c nwe_400 (nw_c nwe_401 (nw_c nwe_402 (nw_c nwe_853 (nw_c nwe_854 (nw_c nwe_855 (nw_c nwe_683 (nw_c nwe_856 (nw_c nwe_857 (nw_c nwe_858 (nw_c nwe_403 (nw_c nwe_404 (nw_c nwe_405 (nw_c nwe_116 (nw_c nwe_117 (nw_c nwe_108 (nw_c nwe_859 (nw_c nwe_860 (nw_c nwe_861 (nw_c nwe_556 (nw_c nwe_557 (nw_c nwe_862 (nw_c nwe_863 (nw_c nwe_864 nw_n)))))))))))))))))))))))
def nwp_L_law_r15 : List Nat := [415, 406, 407, 408, 409, 410, 160, 104, 157, 158, 159, 94, 95, 98, 99, 100, 101, 139, 140, 141, 134, 135, 136, 137]
theorem nwl_L_law_r15 : nwp_L_law_r15.map nw = wsL_law_r15 := nw_c nwe_415 (nw_c nwe_406 (nw_c nwe_407 (nw_c nwe_408 (nw_c nwe_409 (nw_c nwe_410 (nw_c nwe_160 (nw_c nwe_104 (nw_c nwe_157 (nw_c nwe_158 (nw_c nwe_159 (nw_c nwe_94 (nw_c nwe_95 (nw_c nwe_98 (nw_c nwe_99 (nw_c nwe_100 (nw_c nwe_101 (nw_c nwe_139 (nw_c nwe_140 (nw_c nwe_141 (nw_c nwe_134 (nw_c nwe_135 (nw_c nwe_136 (nw_c nwe_137 nw_n)))))))))))))))))))))))
def nwp_L_law_r16 : List Nat := [120, 121, 122, 103, 105, 115, 156, 123, 124, 125, 126, 127, 128, 129, 130, 131, 132, 133, 138, 142, 143, 144, 145, 146]
theorem nwl_L_law_r16 : nwp_L_law_r16.map nw = wsL_law_r16 := nw_c nwe_120 (nw_c nwe_121 (nw_c nwe_122 (nw_c nwe_103 (nw_c nwe_105 (nw_c nwe_115 (nw_c nwe_156 (nw_c nwe_123 (nw_c nwe_124 (nw_c nwe_125 (nw_c nwe_126 (nw_c nwe_127 (nw_c nwe_128 (nw_c nwe_129 (nw_c nwe_130 (nw_c nwe_131 (nw_c nwe_132 (nw_c nwe_133 (nw_c nwe_138 (nw_c nwe_142 (nw_c nwe_143 (nw_c nwe_144 (nw_c nwe_145 (nw_c nwe_146 nw_n)))))))))))))))))))))))
def nwp_L_law_r17 : List Nat := [111, 112, 113, 109, 147, 148, 149, 110, 150, 151, 152, 118, 119, 153, 154, 155, 411, 412, 413, 261, 414, 865, 866, 867]
theorem nwl_L_law_r17 : nwp_L_law_r17.map nw = wsL_law_r17 := nw_c nwe_111 (nw_c nwe_112 (nw_c nwe_113 (nw_c nwe_109 (nw_c nwe_147 (nw_c nwe_148 (nw_c nwe_149 (nw_c nwe_110 (nw_c nwe_150 (nw_c nwe_151 (nw_c nwe_152 (nw_c nwe_118 (nw_c nwe_119 (nw_c nwe_153 (nw_c nwe_154 (nw_c nwe_155 (nw_c nwe_411 (nw_c nwe_412 (nw_c nwe_413 (nw_c nwe_261 (nw_c nwe_414 (nw_c nwe_865 (nw_c nwe_866 (nw_c nwe_867 nw_n)))))))))))))))))))))))
def nwp_L_law_r18 : List Nat := [606, 564, 562, 568, 566, 592, 593, 594, 600, 601, 602, 603, 572, 573, 574, 561, 575, 576, 577, 565, 604, 569, 570, 571]
theorem nwl_L_law_r18 : nwp_L_law_r18.map nw = wsL_law_r18 := nw_c nwe_606 (nw_c nwe_564 (nw_c nwe_562 (nw_c nwe_568 (nw_c nwe_566 (nw_c nwe_592 (nw_c nwe_593 (nw_c nwe_594 (nw_c nwe_600 (nw_c nwe_601 (nw_c nwe_602 (nw_c nwe_603 (nw_c nwe_572 (nw_c nwe_573 (nw_c nwe_574 (nw_c nwe_561 (nw_c nwe_575 (nw_c nwe_576 (nw_c nwe_577 (nw_c nwe_565 (nw_c nwe_604 (nw_c nwe_569 (nw_c nwe_570 (nw_c nwe_571 nw_n)))))))))))))))))))))))
def nwp_L_law_r19 : List Nat := [578, 579, 580, 581, 582, 583, 584, 585, 563, 586, 587, 588, 567, 589, 590, 591, 595, 596, 597, 598, 599, 868, 869, 870]
theorem nwl_L_law_r19 : nwp_L_law_r19.map nw = wsL_law_r19 := nw_c nwe_578 (nw_c nwe_579 (nw_c nwe_580 (nw_c nwe_581 (nw_c nwe_582 (nw_c nwe_583 (nw_c nwe_584 (nw_c nwe_585 (nw_c nwe_563 (nw_c nwe_586 (nw_c nwe_587 (nw_c nwe_588 (nw_c nwe_567 (nw_c nwe_589 (nw_c nwe_590 (nw_c nwe_591 (nw_c nwe_595 (nw_c nwe_596 (nw_c nwe_597 (nw_c nwe_598 (nw_c nwe_599 (nw_c nwe_868 (nw_c nwe_869 (nw_c nwe_870 nw_n)))))))))))))))))))))))
def nwp_L_law_r20 : List Nat := [417, 416, 871, 872, 873, 607, 874, 875, 876, 422, 418, 419, 420, 421, 325, 322, 323, 324, 321, 306, 307, 308, 269, 309]
theorem nwl_L_law_r20 : nwp_L_law_r20.map nw = wsL_law_r20 := nw_c nwe_417 (nw_c nwe_416 (nw_c nwe_871 (nw_c nwe_872 (nw_c nwe_873 (nw_c nwe_607 (nw_c nwe_874 (nw_c nwe_875 (nw_c nwe_876 (nw_c nwe_422 (nw_c nwe_418 (nw_c nwe_419 (nw_c nwe_420 (nw_c nwe_421 (nw_c nwe_325 (nw_c nwe_322 (nw_c nwe_323 (nw_c nwe_324 (nw_c nwe_321 (nw_c nwe_306 (nw_c nwe_307 (nw_c nwe_308 (nw_c nwe_269 (nw_c nwe_309 nw_n)))))))))))))))))))))))
def nwp_L_law_r21 : List Nat := [310, 311, 284, 281, 312, 313, 314, 295, 290, 291, 285, 292, 293, 294, 286, 287, 288, 289, 315, 316, 317, 298, 297, 299]
theorem nwl_L_law_r21 : nwp_L_law_r21.map nw = wsL_law_r21 := nw_c nwe_310 (nw_c nwe_311 (nw_c nwe_284 (nw_c nwe_281 (nw_c nwe_312 (nw_c nwe_313 (nw_c nwe_314 (nw_c nwe_295 (nw_c nwe_290 (nw_c nwe_291 (nw_c nwe_285 (nw_c nwe_292 (nw_c nwe_293 (nw_c nwe_294 (nw_c nwe_286 (nw_c nwe_287 (nw_c nwe_288 (nw_c nwe_289 (nw_c nwe_315 (nw_c nwe_316 (nw_c nwe_317 (nw_c nwe_298 (nw_c nwe_297 (nw_c nwe_299 nw_n)))))))))))))))))))))))
def nwp_L_law_r22 : List Nat := [300, 301, 296, 318, 319, 320, 305, 303, 304, 302, 877, 878, 879, 691, 685, 686, 687, 684, 688, 689, 690, 660, 657, 658]
theorem nwl_L_law_r22 : nwp_L_law_r22.map nw = wsL_law_r22 := nw_c nwe_300 (nw_c nwe_301 (nw_c nwe_296 (nw_c nwe_318 (nw_c nwe_319 (nw_c nwe_320 (nw_c nwe_305 (nw_c nwe_303 (nw_c nwe_304 (nw_c nwe_302 (nw_c nwe_877 (nw_c nwe_878 (nw_c nwe_879 (nw_c nwe_691 (nw_c nwe_685 (nw_c nwe_686 (nw_c nwe_687 (nw_c nwe_684 (nw_c nwe_688 (nw_c nwe_689 (nw_c nwe_690 (nw_c nwe_660 (nw_c nwe_657 (nw_c nwe_658 nw_n)))))))))))))))))))))))
def nwp_L_law_r23 : List Nat := [659, 656, 640, 641, 642, 643, 634, 644, 645, 646, 638, 622, 623, 539, 632, 633, 627, 635, 636, 637, 628, 647, 648, 649]
theorem nwl_L_law_r23 : nwp_L_law_r23.map nw = wsL_law_r23 := nw_c nwe_659 (nw_c nwe_656 (nw_c nwe_640 (nw_c nwe_641 (nw_c nwe_642 (nw_c nwe_643 (nw_c nwe_634 (nw_c nwe_644 (nw_c nwe_645 (nw_c nwe_646 (nw_c nwe_638 (nw_c nwe_622 (nw_c nwe_623 (nw_c nwe_539 (nw_c nwe_632 (nw_c nwe_633 (nw_c nwe_627 (nw_c nwe_635 (nw_c nwe_636 (nw_c nwe_637 (nw_c nwe_628 (nw_c nwe_647 (nw_c nwe_648 (nw_c nwe_649 nw_n)))))))))))))))))))))))
def nwp_L_law_r24 : List Nat := [625, 650, 651, 652, 639, 653, 654, 655, 624, 619, 620, 621, 615, 880, 881, 882, 427, 423, 424, 425, 272, 273, 426, 883]
theorem nwl_L_law_r24 : nwp_L_law_r24.map nw = wsL_law_r24 := nw_c nwe_625 (nw_c nwe_650 (nw_c nwe_651 (nw_c nwe_652 (nw_c nwe_639 (nw_c nwe_653 (nw_c nwe_654 (nw_c nwe_655 (nw_c nwe_624 (nw_c nwe_619 (nw_c nwe_620 (nw_c nwe_621 (nw_c nwe_615 (nw_c nwe_880 (nw_c nwe_881 (nw_c nwe_882 (nw_c nwe_427 (nw_c nwe_423 (nw_c nwe_424 (nw_c nwe_425 (nw_c nwe_272 (nw_c nwe_273 (nw_c nwe_426 (nw_c nwe_883 nw_n)))))))))))))))))))))))
def nwp_L_law_r25 : List Nat := [884, 885, 697, 694, 695, 696, 692, 693, 886, 887, 888, 428, 429, 889, 890, 891, 698, 892, 893, 894, 433, 430, 431, 432]
theorem nwl_L_law_r25 : nwp_L_law_r25.map nw = wsL_law_r25 := nw_c nwe_884 (nw_c nwe_885 (nw_c nwe_697 (nw_c nwe_694 (nw_c nwe_695 (nw_c nwe_696 (nw_c nwe_692 (nw_c nwe_693 (nw_c nwe_886 (nw_c nwe_887 (nw_c nwe_888 (nw_c nwe_428 (nw_c nwe_429 (nw_c nwe_889 (nw_c nwe_890 (nw_c nwe_891 (nw_c nwe_698 (nw_c nwe_892 (nw_c nwe_893 (nw_c nwe_894 (nw_c nwe_433 (nw_c nwe_430 (nw_c nwe_431 (nw_c nwe_432 nw_n)))))))))))))))))))))))
def nwp_L_law_r26 : List Nat := [260, 253, 254, 255, 256, 257, 258, 252, 895, 896, 897, 705, 699, 700, 701, 541, 542, 543, 540, 702, 703, 704, 544, 898]
theorem nwl_L_law_r26 : nwp_L_law_r26.map nw = wsL_law_r26 := nw_c nwe_260 (nw_c nwe_253 (nw_c nwe_254 (nw_c nwe_255 (nw_c nwe_256 (nw_c nwe_257 (nw_c nwe_258 (nw_c nwe_252 (nw_c nwe_895 (nw_c nwe_896 (nw_c nwe_897 (nw_c nwe_705 (nw_c nwe_699 (nw_c nwe_700 (nw_c nwe_701 (nw_c nwe_541 (nw_c nwe_542 (nw_c nwe_543 (nw_c nwe_540 (nw_c nwe_702 (nw_c nwe_703 (nw_c nwe_704 (nw_c nwe_544 (nw_c nwe_898 nw_n)))))))))))))))))))))))
def nwp_L_law_r27 : List Nat := [899, 900, 440, 435, 436, 434, 437, 438, 439, 270, 901, 902, 903, 713, 707, 708, 709, 555, 710, 711, 712, 706, 904, 905]
theorem nwl_L_law_r27 : nwp_L_law_r27.map nw = wsL_law_r27 := nw_c nwe_899 (nw_c nwe_900 (nw_c nwe_440 (nw_c nwe_435 (nw_c nwe_436 (nw_c nwe_434 (nw_c nwe_437 (nw_c nwe_438 (nw_c nwe_439 (nw_c nwe_270 (nw_c nwe_901 (nw_c nwe_902 (nw_c nwe_903 (nw_c nwe_713 (nw_c nwe_707 (nw_c nwe_708 (nw_c nwe_709 (nw_c nwe_555 (nw_c nwe_710 (nw_c nwe_711 (nw_c nwe_712 (nw_c nwe_706 (nw_c nwe_904 (nw_c nwe_905 nw_n)))))))))))))))))))))))
def nwp_L_law_r28 : List Nat := [906, 451, 448, 449, 450, 447, 441, 442, 443, 444, 445, 446, 907, 908, 909, 714, 910, 911, 912, 454, 452, 453, 913, 914]
theorem nwl_L_law_r28 : nwp_L_law_r28.map nw = wsL_law_r28 := nw_c nwe_906 (nw_c nwe_451 (nw_c nwe_448 (nw_c nwe_449 (nw_c nwe_450 (nw_c nwe_447 (nw_c nwe_441 (nw_c nwe_442 (nw_c nwe_443 (nw_c nwe_444 (nw_c nwe_445 (nw_c nwe_446 (nw_c nwe_907 (nw_c nwe_908 (nw_c nwe_909 (nw_c nwe_714 (nw_c nwe_910 (nw_c nwe_911 (nw_c nwe_912 (nw_c nwe_454 (nw_c nwe_452 (nw_c nwe_453 (nw_c nwe_913 (nw_c nwe_914 nw_n)))))))))))))))))))))))
def nwp_L_law_r29 : List Nat := [915, 718, 715, 716, 717, 551, 916, 917, 918, 455, 919, 920, 921, 727, 720, 721, 722, 719, 724, 725, 726, 723, 922, 923]
theorem nwl_L_law_r29 : nwp_L_law_r29.map nw = wsL_law_r29 := nw_c nwe_915 (nw_c nwe_718 (nw_c nwe_715 (nw_c nwe_716 (nw_c nwe_717 (nw_c nwe_551 (nw_c nwe_916 (nw_c nwe_917 (nw_c nwe_918 (nw_c nwe_455 (nw_c nwe_919 (nw_c nwe_920 (nw_c nwe_921 (nw_c nwe_727 (nw_c nwe_720 (nw_c nwe_721 (nw_c nwe_722 (nw_c nwe_719 (nw_c nwe_724 (nw_c nwe_725 (nw_c nwe_726 (nw_c nwe_723 (nw_c nwe_922 (nw_c nwe_923 nw_n)))))))))))))))))))))))
def nwp_L_law_r30 : List Nat := [924, 456, 925, 926, 927, 728, 928, 929, 930, 460, 457, 458, 459, 271, 931, 932, 933, 729, 934, 935, 936, 476, 467, 468]
theorem nwl_L_law_r30 : nwp_L_law_r30.map nw = wsL_law_r30 := nw_c nwe_924 (nw_c nwe_456 (nw_c nwe_925 (nw_c nwe_926 (nw_c nwe_927 (nw_c nwe_728 (nw_c nwe_928 (nw_c nwe_929 (nw_c nwe_930 (nw_c nwe_460 (nw_c nwe_457 (nw_c nwe_458 (nw_c nwe_459 (nw_c nwe_271 (nw_c nwe_931 (nw_c nwe_932 (nw_c nwe_933 (nw_c nwe_729 (nw_c nwe_934 (nw_c nwe_935 (nw_c nwe_936 (nw_c nwe_476 (nw_c nwe_467 (nw_c nwe_468 nw_n)))))))))))))))))))))))
def nwp_L_law_r31 : List Nat := [469, 461, 470, 471, 472, 166, 473, 474, 475, 466, 462, 463, 464, 465, 177, 937, 938, 939, 737, 732, 733, 731, 734, 735]
theorem nwl_L_law_r31 : nwp_L_law_r31.map nw = wsL_law_r31 := nw_c nwe_469 (nw_c nwe_461 (nw_c nwe_470 (nw_c nwe_471 (nw_c nwe_472 (nw_c nwe_166 (nw_c nwe_473 (nw_c nwe_474 (nw_c nwe_475 (nw_c nwe_466 (nw_c nwe_462 (nw_c nwe_463 (nw_c nwe_464 (nw_c nwe_465 (nw_c nwe_177 (nw_c nwe_937 (nw_c nwe_938 (nw_c nwe_939 (nw_c nwe_737 (nw_c nwe_732 (nw_c nwe_733 (nw_c nwe_731 (nw_c nwe_734 (nw_c nwe_735 nw_n)))))))))))))))))))))))
def nwp_L_law_r32 : List Nat := [736, 730, 940, 941, 942, 481, 477, 478, 479, 480, 228, 227, 217, 218, 219, 214, 205, 206, 207, 226, 209, 210, 211, 212]
theorem nwl_L_law_r32 : nwp_L_law_r32.map nw = wsL_law_r32 := nw_c nwe_736 (nw_c nwe_730 (nw_c nwe_940 (nw_c nwe_941 (nw_c nwe_942 (nw_c nwe_481 (nw_c nwe_477 (nw_c nwe_478 (nw_c nwe_479 (nw_c nwe_480 (nw_c nwe_228 (nw_c nwe_227 (nw_c nwe_217 (nw_c nwe_218 (nw_c nwe_219 (nw_c nwe_214 (nw_c nwe_205 (nw_c nwe_206 (nw_c nwe_207 (nw_c nwe_226 (nw_c nwe_209 (nw_c nwe_210 (nw_c nwe_211 (nw_c nwe_212 nw_n)))))))))))))))))))))))
def nwp_L_law_r33 : List Nat := [213, 215, 216, 220, 221, 222, 204, 223, 224, 225, 943, 944, 945, 772, 739, 742, 767, 753, 754, 755, 741, 750, 751, 752]
theorem nwl_L_law_r33 : nwp_L_law_r33.map nw = wsL_law_r33 := nw_c nwe_213 (nw_c nwe_215 (nw_c nwe_216 (nw_c nwe_220 (nw_c nwe_221 (nw_c nwe_222 (nw_c nwe_204 (nw_c nwe_223 (nw_c nwe_224 (nw_c nwe_225 (nw_c nwe_943 (nw_c nwe_944 (nw_c nwe_945 (nw_c nwe_772 (nw_c nwe_739 (nw_c nwe_742 (nw_c nwe_767 (nw_c nwe_753 (nw_c nwe_754 (nw_c nwe_755 (nw_c nwe_741 (nw_c nwe_750 (nw_c nwe_751 (nw_c nwe_752 nw_n)))))))))))))))))))))))
def nwp_L_law_r34 : List Nat := [744, 745, 746, 747, 738, 748, 749, 740, 756, 757, 758, 762, 759, 760, 761, 743, 763, 764, 765, 766, 768, 769, 770, 771]
theorem nwl_L_law_r34 : nwp_L_law_r34.map nw = wsL_law_r34 := nw_c nwe_744 (nw_c nwe_745 (nw_c nwe_746 (nw_c nwe_747 (nw_c nwe_738 (nw_c nwe_748 (nw_c nwe_749 (nw_c nwe_740 (nw_c nwe_756 (nw_c nwe_757 (nw_c nwe_758 (nw_c nwe_762 (nw_c nwe_759 (nw_c nwe_760 (nw_c nwe_761 (nw_c nwe_743 (nw_c nwe_763 (nw_c nwe_764 (nw_c nwe_765 (nw_c nwe_766 (nw_c nwe_768 (nw_c nwe_769 (nw_c nwe_770 (nw_c nwe_771 nw_n)))))))))))))))))))))))
def nwp_L_law_r35 : List Nat := [946, 947, 948, 482, 483, 484, 949, 950, 951, 773, 952, 953, 954, 488, 485, 486, 487, 168, 169, 170, 171, 955, 956, 957]
theorem nwl_L_law_r35 : nwp_L_law_r35.map nw = wsL_law_r35 := nw_c nwe_946 (nw_c nwe_947 (nw_c nwe_948 (nw_c nwe_482 (nw_c nwe_483 (nw_c nwe_484 (nw_c nwe_949 (nw_c nwe_950 (nw_c nwe_951 (nw_c nwe_773 (nw_c nwe_952 (nw_c nwe_953 (nw_c nwe_954 (nw_c nwe_488 (nw_c nwe_485 (nw_c nwe_486 (nw_c nwe_487 (nw_c nwe_168 (nw_c nwe_169 (nw_c nwe_170 (nw_c nwe_171 (nw_c nwe_955 (nw_c nwe_956 (nw_c nwe_957 nw_n)))))))))))))))))))))))
def nwp_L_law_r36 : List Nat := [774, 958, 959, 960, 492, 489, 490, 491, 175, 961, 962, 963, 775, 964, 965, 966, 498, 493, 494, 495, 496, 497, 176, 967]
theorem nwl_L_law_r36 : nwp_L_law_r36.map nw = wsL_law_r36 := nw_c nwe_774 (nw_c nwe_958 (nw_c nwe_959 (nw_c nwe_960 (nw_c nwe_492 (nw_c nwe_489 (nw_c nwe_490 (nw_c nwe_491 (nw_c nwe_175 (nw_c nwe_961 (nw_c nwe_962 (nw_c nwe_963 (nw_c nwe_775 (nw_c nwe_964 (nw_c nwe_965 (nw_c nwe_966 (nw_c nwe_498 (nw_c nwe_493 (nw_c nwe_494 (nw_c nwe_495 (nw_c nwe_496 (nw_c nwe_497 (nw_c nwe_176 (nw_c nwe_967 nw_n)))))))))))))))))))))))
def nwp_L_law_r37 : List Nat := [968, 969, 776, 970, 971, 972, 503, 499, 500, 501, 502, 174, 973, 974, 975, 778, 779, 780, 781, 777, 976, 977, 978, 504]
theorem nwl_L_law_r37 : nwp_L_law_r37.map nw = wsL_law_r37 := nw_c nwe_968 (nw_c nwe_969 (nw_c nwe_776 (nw_c nwe_970 (nw_c nwe_971 (nw_c nwe_972 (nw_c nwe_503 (nw_c nwe_499 (nw_c nwe_500 (nw_c nwe_501 (nw_c nwe_502 (nw_c nwe_174 (nw_c nwe_973 (nw_c nwe_974 (nw_c nwe_975 (nw_c nwe_778 (nw_c nwe_779 (nw_c nwe_780 (nw_c nwe_781 (nw_c nwe_777 (nw_c nwe_976 (nw_c nwe_977 (nw_c nwe_978 (nw_c nwe_504 nw_n)))))))))))))))))))))))
def nwp_L_law_r38 : List Nat := [979, 980, 981, 782, 982, 983, 984, 505, 985, 986, 987, 783, 784, 988, 989, 990, 506, 991, 992, 993, 785, 994, 995, 996]
theorem nwl_L_law_r38 : nwp_L_law_r38.map nw = wsL_law_r38 := nw_c nwe_979 (nw_c nwe_980 (nw_c nwe_981 (nw_c nwe_782 (nw_c nwe_982 (nw_c nwe_983 (nw_c nwe_984 (nw_c nwe_505 (nw_c nwe_985 (nw_c nwe_986 (nw_c nwe_987 (nw_c nwe_783 (nw_c nwe_784 (nw_c nwe_988 (nw_c nwe_989 (nw_c nwe_990 (nw_c nwe_506 (nw_c nwe_991 (nw_c nwe_992 (nw_c nwe_993 (nw_c nwe_785 (nw_c nwe_994 (nw_c nwe_995 (nw_c nwe_996 nw_n)))))))))))))))))))))))
def nwp_L_law_r39 : List Nat := [507, 997, 998, 999, 786, 1000, 1001, 1002, 509, 508, 1003, 1004, 1005, 787, 1006, 1007, 1008, 511, 510, 1009, 1010, 1011, 788, 1012]
theorem nwl_L_law_r39 : nwp_L_law_r39.map nw = wsL_law_r39 := nw_c nwe_507 (nw_c nwe_997 (nw_c nwe_998 (nw_c nwe_999 (nw_c nwe_786 (nw_c nwe_1000 (nw_c nwe_1001 (nw_c nwe_1002 (nw_c nwe_509 (nw_c nwe_508 (nw_c nwe_1003 (nw_c nwe_1004 (nw_c nwe_1005 (nw_c nwe_787 (nw_c nwe_1006 (nw_c nwe_1007 (nw_c nwe_1008 (nw_c nwe_511 (nw_c nwe_510 (nw_c nwe_1009 (nw_c nwe_1010 (nw_c nwe_1011 (nw_c nwe_788 (nw_c nwe_1012 nw_n)))))))))))))))))))))))
def nwp_L_law_r40 : List Nat := [1013, 1014, 512, 1015, 1016, 1017, 789]
theorem nwl_L_law_r40 : nwp_L_law_r40.map nw = wsL_law_r40 := nw_c nwe_1013 (nw_c nwe_1014 (nw_c nwe_512 (nw_c nwe_1015 (nw_c nwe_1016 (nw_c nwe_1017 (nw_c nwe_789 nw_n))))))
def nwp_L_law : List Nat := ((((((((((nwp_L_law_r1 ++ (nwp_L_law_r2 ++ (nwp_L_law_r3 ++ (nwp_L_law_r4 ++ (nwp_L_law_r5 ++ (nwp_L_law_r6 ++ (nwp_L_law_r7 ++ (nwp_L_law_r8 ++ (nwp_L_law_r9 ++ (nwp_L_law_r10 ++ (nwp_L_law_r11 ++ (nwp_L_law_r12 ++ (nwp_L_law_r13 ++ (nwp_L_law_r14 ++ (nwp_L_law_r15 ++ (nwp_L_law_r16 ++ (nwp_L_law_r17 ++ (nwp_L_law_r18 ++ (nwp_L_law_r19 ++ (nwp_L_law_r20 ++ (nwp_L_law_r21 ++ (nwp_L_law_r22 ++ (nwp_L_law_r23 ++ (nwp_L_law_r24 ++ (nwp_L_law_r25 ++ (nwp_L_law_r26 ++ (nwp_L_law_r27 ++ (nwp_L_law_r28 ++ (nwp_L_law_r29 ++ (nwp_L_law_r30 ++ (nwp_L_law_r31 ++ (nwp_L_law_r32 ++ (nwp_L_law_r33 ++ (nwp_L_law_r34 ++ (nwp_L_law_r35 ++ (nwp_L_law_r36 ++ (nwp_L_law_r37 ++ (nwp_L_law_r38 ++ (nwp_L_law_r39 ++ nwp_L_law_r40))))))))))))))))))))))))))))))))))))))) ++ nwp_X60) ++ nwp_X70) ++ nwp_X50) ++ nwp_X10) ++ nwp_X00) ++ nwp_X40) ++ nwp_X20) ++ nwp_X30) ++ [])
theorem nwl_L_law : nwp_L_law.map nw = wsL_law := nw_a (nw_a (nw_a (nw_a (nw_a (nw_a (nw_a (nw_a (nw_a (nw_a (nwl_L_law_r1) (nw_a (nwl_L_law_r2) (nw_a (nwl_L_law_r3) (nw_a (nwl_L_law_r4) (nw_a (nwl_L_law_r5) (nw_a (nwl_L_law_r6) (nw_a (nwl_L_law_r7) (nw_a (nwl_L_law_r8) (nw_a (nwl_L_law_r9) (nw_a (nwl_L_law_r10) (nw_a (nwl_L_law_r11) (nw_a (nwl_L_law_r12) (nw_a (nwl_L_law_r13) (nw_a (nwl_L_law_r14) (nw_a (nwl_L_law_r15) (nw_a (nwl_L_law_r16) (nw_a (nwl_L_law_r17) (nw_a (nwl_L_law_r18) (nw_a (nwl_L_law_r19) (nw_a (nwl_L_law_r20) (nw_a (nwl_L_law_r21) (nw_a (nwl_L_law_r22) (nw_a (nwl_L_law_r23) (nw_a (nwl_L_law_r24) (nw_a (nwl_L_law_r25) (nw_a (nwl_L_law_r26) (nw_a (nwl_L_law_r27) (nw_a (nwl_L_law_r28) (nw_a (nwl_L_law_r29) (nw_a (nwl_L_law_r30) (nw_a (nwl_L_law_r31) (nw_a (nwl_L_law_r32) (nw_a (nwl_L_law_r33) (nw_a (nwl_L_law_r34) (nw_a (nwl_L_law_r35) (nw_a (nwl_L_law_r36) (nw_a (nwl_L_law_r37) (nw_a (nwl_L_law_r38) (nw_a (nwl_L_law_r39) (nwl_L_law_r40)))))))))))))))))))))))))))))))))))))))) (nwl_X60)) (nwl_X70)) (nwl_X50)) (nwl_X10)) (nwl_X00)) (nwl_X40)) (nwl_X20)) (nwl_X30)) (nw_n)
