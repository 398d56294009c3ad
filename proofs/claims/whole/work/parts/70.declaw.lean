def wsL_law_r1 : List Cond := [Cond.classLink RL 7 RX5, Cond.instantiable RX5 10, Cond.initialized RX5, Cond.classLink RL 10 RX6, Cond.instantiable RX6 32, Cond.initialized RX6, Cond.constantLong RL 13 (4294967295), Cond.methodLink RL 9 yX5_init, Cond.instanceMethod yX5_init, Cond.code yX5_init cX5_init 1 none, Cond.methodLink RX5 1 objectInit, Cond.instanceMethod objectInit, Cond.code objectInit ⟨#[0xb1]⟩ 1 none, Cond.classLink RX5 7 RX2, Cond.instantiable RX2 2, Cond.initialized RX2, Cond.fieldLink RX5 10 "LowWater" "page" "LLowWater$Page;", Cond.classLink RX5 16 RX4, Cond.instantiable RX4 4, Cond.initialized RX4, Cond.fieldLink RX5 19 "LowWater" "ground" "LLowWater$Shore;", Cond.classLink RX5 23 RX3, Cond.instantiable RX3 9, Cond.initialized RX3]
def wsL_law_r2 : List Cond := [Cond.fieldLink RX5 26 "LowWater" "now" "LLowWater$Scene;", Cond.fieldLink RX5 30 "LowWater" "kept" "LLowWater$Scene;", Cond.fieldLink RX5 33 "LowWater" "trial" "LLowWater$Scene;", Cond.classLink RX5 36 RX1, Cond.instantiable RX1 1, Cond.initialized RX1, Cond.fieldLink RX5 39 "LowWater" "draws" "LLowWater$Draws;", Cond.classLink RX5 43 RX0, Cond.instantiable RX0 6, Cond.initialized RX0, Cond.fieldLink RX5 46 "LowWater" "child" "LLowWater$Child;", Cond.fieldLink RX5 50 "LowWater" "shoresRead" "I", Cond.fieldLink RX5 54 "LowWater" "bestsDone" "I", Cond.fieldLink RX5 57 "LowWater" "keptAtShore" "I", Cond.instanceMethod yX2_init, Cond.code yX2_init cX2_init 1 none, Cond.methodLink RX2 3 objectInit, Cond.arrayClass .char, Cond.fieldLink RX2 9 "LowWater$Page" "letters" "[C", Cond.fieldLink RX2 15 "LowWater$Page" "size" "I", Cond.instanceMethod yX4_init, Cond.code yX4_init cX4_init 1 none, Cond.methodLink RX4 3 objectInit, Cond.arrayClass .int]
def wsL_law_r3 : List Cond := [Cond.fieldLink RX4 9 "LowWater$Shore" "levels" "[I", Cond.fieldLink RX4 15 "LowWater$Shore" "heights" "[I", Cond.fieldLink RX4 18 "LowWater$Shore" "heightCount" "I", Cond.fieldLink RX4 22 "LowWater$Shore" "stairs" "I", Cond.instanceMethod yX3_init, Cond.code yX3_init cX3_init 1 none, Cond.methodLink RX3 3 objectInit, Cond.fieldLink RX3 9 "LowWater$Scene" "kinds" "[I", Cond.fieldLink RX3 15 "LowWater$Scene" "places" "[I", Cond.fieldLink RX3 18 "LowWater$Scene" "worths" "[I", Cond.fieldLink RX3 21 "LowWater$Scene" "thingCount" "I", Cond.fieldLink RX3 25 "LowWater$Scene" "barge" "I", Cond.fieldLink RX3 28 "LowWater$Scene" "hour" "I", Cond.fieldLink RX3 31 "LowWater$Scene" "markCount" "I", Cond.fieldLink RX3 34 "LowWater$Scene" "marks" "[I", Cond.fieldLink RX3 37 "LowWater$Scene" "markHour" "I", Cond.instanceMethod yX1_init, Cond.code yX1_init cX1_init 1 none, Cond.methodLink RX1 1 objectInit, Cond.fieldLink RX1 7 "LowWater$Draws" "seed" "J", Cond.instanceMethod yX0_init, Cond.code yX0_init cX0_init 1 none, Cond.methodLink RX0 3 objectInit, Cond.fieldLink RX0 11 "LowWater$Child" "lying" "[I"]
def wsL_law_r4 : List Cond := [Cond.arrayClass .boolean, Cond.fieldLink RX0 15 "LowWater$Child" "dry" "[Z", Cond.fieldLink RX0 19 "LowWater$Child" "stairs" "[Z", Cond.fieldLink RX0 22 "LowWater$Child" "worths" "[I", Cond.fieldLink RX0 25 "LowWater$Child" "last" "I", Cond.fieldLink RX0 29 "LowWater$Child" "first" "I", Cond.methodLink RL 12 yX6_init, Cond.instanceMethod yX6_init, Cond.code yX6_init cX6_init 1 none, Cond.methodLink RX6 1 objectInit, Cond.fieldLink RX6 7 "LowWaterModel" "page" "[I", Cond.fieldLink RX6 13 "LowWaterModel" "readLevels" "[I", Cond.fieldLink RX6 16 "LowWaterModel" "readHeights" "[I", Cond.fieldLink RX6 19 "LowWaterModel" "levels" "[I", Cond.fieldLink RX6 22 "LowWaterModel" "heights" "[I", Cond.fieldLink RX6 25 "LowWaterModel" "rows" "[I", Cond.fieldLink RX6 28 "LowWaterModel" "lies" "[I", Cond.fieldLink RX6 31 "LowWaterModel" "marks" "[I", Cond.fieldLink RX6 34 "LowWaterModel" "where" "[I", Cond.fieldLink RX6 37 "LowWaterModel" "keptRows" "[I", Cond.fieldLink RX6 40 "LowWaterModel" "keptMarks" "[I", Cond.fieldLink RX6 43 "LowWaterModel" "keptShore" "I", Cond.fieldLink RX6 47 "LowWaterModel" "bargeAt" "I", Cond.methodLink RL 15 yX5_letters]
def wsL_law_r5 : List Cond := [Cond.instanceMethod yX5_letters, Cond.selects RX5 yX5_letters yX5_letters, Cond.code yX5_letters cX5_letters 4 (some .int), Cond.fieldLink RX5 64 "LowWater$Page" "size" "I", Cond.methodLink RX5 60 yX2_lettersIn, Cond.static yX2_lettersIn, Cond.code yX2_lettersIn cX2_lettersIn 6 (some .int), Cond.methodLink RX2 19 yX2_letterOf, Cond.static yX2_letterOf, Cond.code yX2_letterOf cX2_letterOf 3 (some .int), Cond.constantLong RX2 42 (255), Cond.methodLink RX5 67 yX2_append, Cond.instanceMethod yX2_append, Cond.selects RX2 yX2_append yX2_append, Cond.code yX2_append cX2_append 5 none, Cond.methodLink RL 19 yX6_letters, Cond.instanceMethod yX6_letters, Cond.selects RX6 yX6_letters yX6_letters, Cond.code yX6_letters cX6_letters 9 (some .int), Cond.constantLong RX6 50 (255), Cond.fieldLink RX6 52 "LowWaterModel" "pageMany" "I", Cond.methodLink RL 20 yX5_blank, Cond.instanceMethod yX5_blank, Cond.selects RX5 yX5_blank yX5_blank]
def wsL_law_r6 : List Cond := [Cond.code yX5_blank cX5_blank 2 (some .int), Cond.methodLink RL 24 yX6_blank, Cond.instanceMethod yX6_blank, Cond.selects RX6 yX6_blank yX6_blank, Cond.code yX6_blank cX6_blank 2 (some .int), Cond.methodLink RL 25 yX5_fault, Cond.instanceMethod yX5_fault, Cond.selects RX5 yX5_fault yX5_fault, Cond.code yX5_fault cX5_fault 1 (some .int), Cond.methodLink RX5 71 yX2_faultPlace, Cond.instanceMethod yX2_faultPlace, Cond.selects RX2 yX2_faultPlace yX2_faultPlace, Cond.code yX2_faultPlace cX2_faultPlace 6 (some .int), Cond.methodLink RX2 23 yX2_isDigit, Cond.static yX2_isDigit, Cond.code yX2_isDigit cX2_isDigit 1 (some .boolean), Cond.methodLink RX2 27 yX2_isNewStair, Cond.static yX2_isNewStair, Cond.code yX2_isNewStair cX2_isNewStair 3 (some .boolean), Cond.methodLink RX2 31 yX2_stairBit, Cond.static yX2_stairBit, Cond.code yX2_stairBit cX2_stairBit 1 (some .int), Cond.static yX5_isCell, Cond.code yX5_isCell cX5_isCell 1 (some .boolean)]
def wsL_law_r7 : List Cond := [Cond.methodLink RL 28 yX6_fault, Cond.instanceMethod yX6_fault, Cond.selects RX6 yX6_fault yX6_fault, Cond.code yX6_fault cX6_fault 1 (some .int), Cond.methodLink RX6 78 yX6_faultOf, Cond.instanceMethod yX6_faultOf, Cond.selects RX6 yX6_faultOf yX6_faultOf, Cond.code yX6_faultOf cX6_faultOf 2 (some .int), Cond.fieldLink RX6 61 "LowWaterModel" "readStairs" "I", Cond.fieldLink RX6 58 "LowWaterModel" "readMany" "I", Cond.fieldLink RX6 55 "LowWaterModel" "part" "I", Cond.methodLink RX6 74 yX6_go, Cond.instanceMethod yX6_go, Cond.selects RX6 yX6_go yX6_go, Cond.code yX6_go cX6_go 4 (some .boolean), Cond.constantLong RX6 68 (9), Cond.methodLink RX6 64 yX6_goNext, Cond.instanceMethod yX6_goNext, Cond.selects RX6 yX6_goNext yX6_goNext, Cond.code yX6_goNext cX6_goNext 2 (some .boolean), Cond.methodLink RX6 70 yX6_in, Cond.static yX6_in, Cond.code yX6_in cX6_in 6 (some .boolean), Cond.methodLink RL 29 yX5_shore]
def wsL_law_r8 : List Cond := [Cond.instanceMethod yX5_shore, Cond.selects RX5 yX5_shore yX5_shore, Cond.code yX5_shore cX5_shore 1 (some .int), Cond.fieldLink RX5 86 "LowWater$Shore" "heightCount" "I", Cond.methodLink RX5 75 yX2_isShore, Cond.instanceMethod yX2_isShore, Cond.selects RX2 yX2_isShore yX2_isShore, Cond.code yX2_isShore cX2_isShore 2 (some .boolean), Cond.methodLink RX2 35 yX2_heightsBehind, Cond.instanceMethod yX2_heightsBehind, Cond.selects RX2 yX2_heightsBehind yX2_heightsBehind, Cond.code yX2_heightsBehind cX2_heightsBehind 2 (some .int), Cond.methodLink RX2 39 yX2_faultPlace, Cond.methodLink RX5 79 yX4_readFrom, Cond.instanceMethod yX4_readFrom, Cond.selects RX4 yX4_readFrom yX4_readFrom, Cond.code yX4_readFrom cX4_readFrom 4 none, Cond.fieldLink RX4 31 "LowWater$Page" "letters" "[C", Cond.fieldLink RX4 35 "LowWater$Page" "size" "I", Cond.methodLink RX4 25 yX2_heightsBehind, Cond.methodLink RX5 83 yX3_clear, Cond.instanceMethod yX3_clear, Cond.selects RX3 yX3_clear yX3_clear, Cond.code yX3_clear cX3_clear 1 none]
def wsL_law_r9 : List Cond := [Cond.methodLink RL 32 yX6_shore, Cond.instanceMethod yX6_shore, Cond.selects RX6 yX6_shore yX6_shore, Cond.code yX6_shore cX6_shore 2 (some .int), Cond.fieldLink RX6 82 "LowWaterModel" "heightMany" "I", Cond.fieldLink RX6 85 "LowWaterModel" "stairs" "I", Cond.fieldLink RX6 88 "LowWaterModel" "hourNow" "I", Cond.fieldLink RX6 91 "LowWaterModel" "things" "I", Cond.fieldLink RX6 94 "LowWaterModel" "markMany" "I", Cond.fieldLink RX6 97 "LowWaterModel" "shoresRead" "I", Cond.methodLink RL 33 yX5_cell, Cond.instanceMethod yX5_cell, Cond.selects RX5 yX5_cell yX5_cell, Cond.code yX5_cell cX5_cell 3 (some .int), Cond.fieldLink RX5 96 "LowWater$Shore" "levels" "[I", Cond.methodLink RX5 89 yX5_isCell, Cond.methodLink RX5 93 yX5_hasShore, Cond.instanceMethod yX5_hasShore, Cond.selects RX5 yX5_hasShore yX5_hasShore, Cond.code yX5_hasShore cX5_hasShore 1 (some .boolean), Cond.methodLink RX5 100 yX4_hasStair, Cond.instanceMethod yX4_hasStair, Cond.selects RX4 yX4_hasStair yX4_hasStair, Cond.code yX4_hasStair cX4_hasStair 2 (some .boolean)]
def wsL_law_r10 : List Cond := [Cond.methodLink RX5 103 yX5_isDryNow, Cond.instanceMethod yX5_isDryNow, Cond.selects RX5 yX5_isDryNow yX5_isDryNow, Cond.code yX5_isDryNow cX5_isDryNow 2 (some .boolean), Cond.fieldLink RX5 110 "LowWater$Scene" "hour" "I", Cond.fieldLink RX5 116 "LowWater$Scene" "barge" "I", Cond.methodLink RX5 174 yX4_isDry, Cond.instanceMethod yX4_isDry, Cond.selects RX4 yX4_isDry yX4_isDry, Cond.code yX4_isDry cX4_isDry 4 (some .boolean), Cond.methodLink RX4 54 yX4_heightIn, Cond.instanceMethod yX4_heightIn, Cond.selects RX4 yX4_heightIn yX4_heightIn, Cond.code yX4_heightIn cX4_heightIn 2 (some .int), Cond.methodLink RX4 48 yJ9_floorMod_7cf53, Cond.static yJ9_floorMod_7cf53, Cond.initialized RJ9, Cond.code yJ9_floorMod_7cf53 cJ9_floorMod_7cf53 3 (some .int), Cond.methodLink RX4 57 yX4_levelUnder, Cond.instanceMethod yX4_levelUnder, Cond.selects RX4 yX4_levelUnder yX4_levelUnder, Cond.code yX4_levelUnder cX4_levelUnder 4 (some .int), Cond.methodLink RX4 60 Lib.Math.abs.name, Cond.static Lib.Math.abs.name]
def wsL_law_r11 : List Cond := [Cond.initialized "java/lang/Math", Cond.code Lib.Math.abs.name Lib.Math.abs.code 1 (some .int), Cond.methodLink RX4 63 Lib.Math.max.name, Cond.static Lib.Math.max.name, Cond.code Lib.Math.max.name Lib.Math.max.code 2 (some .int), Cond.methodLink RX5 106 yX3_countIn, Cond.instanceMethod yX3_countIn, Cond.selects RX3 yX3_countIn yX3_countIn, Cond.code yX3_countIn cX3_countIn 4 (some .int), Cond.methodLink RL 37 yX6_cell, Cond.instanceMethod yX6_cell, Cond.selects RX6 yX6_cell yX6_cell, Cond.code yX6_cell cX6_cell 3 (some .int), Cond.constantLong RX6 120 (3), Cond.methodLink RX6 117 yX6_isCell, Cond.static yX6_isCell, Cond.code yX6_isCell cX6_isCell 1 (some .boolean), Cond.constantLong RX6 100 (7), Cond.methodLink RX6 122 yX6_lacks, Cond.instanceMethod yX6_lacks, Cond.selects RX6 yX6_lacks yX6_lacks, Cond.code yX6_lacks cX6_lacks 1 (some .boolean), Cond.methodLink RX6 125 yX6_tellCell, Cond.instanceMethod yX6_tellCell]
def wsL_law_r12 : List Cond := [Cond.selects RX6 yX6_tellCell yX6_tellCell, Cond.code yX6_tellCell cX6_tellCell 3 (some .int), Cond.methodLink RX6 110 yX6_isDry, Cond.instanceMethod yX6_isDry, Cond.selects RX6 yX6_isDry yX6_isDry, Cond.code yX6_isDry cX6_isDry 4 (some .boolean), Cond.methodLink RX6 102 yX6_heightAt, Cond.instanceMethod yX6_heightAt, Cond.selects RX6 yX6_heightAt yX6_heightAt, Cond.code yX6_heightAt cX6_heightAt 2 (some .int), Cond.methodLink RX6 106 yX6_levelOf, Cond.instanceMethod yX6_levelOf, Cond.selects RX6 yX6_levelOf yX6_levelOf, Cond.code yX6_levelOf cX6_levelOf 4 (some .int), Cond.methodLink RX6 114 yX6_lieIn, Cond.instanceMethod yX6_lieIn, Cond.selects RX6 yX6_lieIn yX6_lieIn, Cond.code yX6_lieIn cX6_lieIn 4 (some .int), Cond.methodLink RL 38 yX5_tide, Cond.instanceMethod yX5_tide, Cond.selects RX5 yX5_tide yX5_tide, Cond.code yX5_tide cX5_tide 2 (some .int), Cond.methodLink RX5 113 yX4_heightIn, Cond.methodLink RL 42 yX6_tide]
def wsL_law_r13 : List Cond := [Cond.instanceMethod yX6_tide, Cond.selects RX6 yX6_tide yX6_tide, Cond.code yX6_tide cX6_tide 2 (some .int), Cond.constantLong RX6 128 (99), Cond.methodLink RL 43 yX5_barge, Cond.instanceMethod yX5_barge, Cond.selects RX5 yX5_barge yX5_barge, Cond.code yX5_barge cX5_barge 3 (some .int), Cond.methodLink RL 46 yX6_barge, Cond.instanceMethod yX6_barge, Cond.selects RX6 yX6_barge yX6_barge, Cond.code yX6_barge cX6_barge 3 (some .int), Cond.methodLink RL 47 yX5_hour, Cond.instanceMethod yX5_hour, Cond.selects RX5 yX5_hour yX5_hour, Cond.code yX5_hour cX5_hour 1 (some .int), Cond.methodLink RX5 119 yX3_goOn, Cond.instanceMethod yX3_goOn, Cond.selects RX3 yX3_goOn yX3_goOn, Cond.code yX3_goOn cX3_goOn 5 (some .int), Cond.methodLink RX3 46 yX4_drifted, Cond.instanceMethod yX4_drifted, Cond.selects RX4 yX4_drifted yX4_drifted, Cond.code yX4_drifted cX4_drifted 7 (some .int)]
def wsL_law_r14 : List Cond := [Cond.static yX5_isKind, Cond.code yX5_isKind cX5_isKind 1 (some .boolean), Cond.methodLink RX4 69 yX4_isDry, Cond.methodLink RX4 76 yX4_carried, Cond.instanceMethod yX4_carried, Cond.selects RX4 yX4_carried yX4_carried, Cond.code yX4_carried cX4_carried 9 (some .int), Cond.methodLink RL 50 yX6_hour, Cond.instanceMethod yX6_hour, Cond.selects RX6 yX6_hour yX6_hour, Cond.code yX6_hour cX6_hour 4 (some .int), Cond.methodLink RX6 130 yX6_drifts, Cond.instanceMethod yX6_drifts, Cond.selects RX6 yX6_drifts yX6_drifts, Cond.code yX6_drifts cX6_drifts 12 (some .int), Cond.methodLink RL 51 yX5_thing, Cond.instanceMethod yX5_thing, Cond.selects RX5 yX5_thing yX5_thing, Cond.code yX5_thing cX5_thing 4 (some .int), Cond.methodLink RX5 123 yX5_isKind, Cond.methodLink RX5 126 yX3_addThing, Cond.instanceMethod yX3_addThing, Cond.selects RX3 yX3_addThing yX3_addThing, Cond.code yX3_addThing cX3_addThing 5 (some .int)]
def wsL_law_r15 : List Cond := [Cond.methodLink RL 55 yX6_thing, Cond.instanceMethod yX6_thing, Cond.selects RX6 yX6_thing yX6_thing, Cond.code yX6_thing cX6_thing 4 (some .int), Cond.constantLong RX6 134 (4), Cond.constantLong RX6 136 (50), Cond.methodLink RL 56 yX5_about, Cond.instanceMethod yX5_about, Cond.selects RX5 yX5_about yX5_about, Cond.code yX5_about cX5_about 3 (some .int), Cond.fieldLink RX5 133 "LowWater$Scene" "kinds" "[I", Cond.fieldLink RX5 136 "LowWater$Scene" "places" "[I", Cond.fieldLink RX5 139 "LowWater$Scene" "worths" "[I", Cond.methodLink RX5 130 yX3_isThing, Cond.instanceMethod yX3_isThing, Cond.selects RX3 yX3_isThing yX3_isThing, Cond.code yX3_isThing cX3_isThing 2 (some .boolean), Cond.methodLink RX5 142 yX4_nearestStair, Cond.instanceMethod yX4_nearestStair, Cond.selects RX4 yX4_nearestStair yX4_nearestStair, Cond.code yX4_nearestStair cX4_nearestStair 7 (some .int), Cond.methodLink RX4 83 yX4_hasStair, Cond.methodLink RL 59 yX6_about, Cond.instanceMethod yX6_about]
def wsL_law_r16 : List Cond := [Cond.selects RX6 yX6_about yX6_about, Cond.code yX6_about cX6_about 3 (some .int), Cond.methodLink RX6 146 yX6_isThing, Cond.instanceMethod yX6_isThing, Cond.selects RX6 yX6_isThing yX6_isThing, Cond.code yX6_isThing cX6_isThing 2 (some .boolean), Cond.methodLink RX6 149 yX6_tell, Cond.instanceMethod yX6_tell, Cond.selects RX6 yX6_tell yX6_tell, Cond.code yX6_tell cX6_tell 3 (some .int), Cond.constantLong RX6 144 (2), Cond.methodLink RX6 141 yX6_nearest, Cond.static yX6_nearest, Cond.code yX6_nearest cX6_nearest 5 (some .int), Cond.methodLink RX6 138 yX6_apart, Cond.static yX6_apart, Cond.code yX6_apart cX6_apart 2 (some .int), Cond.methodLink RL 60 yX5_as, Cond.instanceMethod yX5_as, Cond.selects RX5 yX5_as yX5_as, Cond.code yX5_as cX5_as 3 (some .int), Cond.methodLink RX5 146 yX5_isOfKind, Cond.static yX5_isOfKind, Cond.code yX5_isOfKind cX5_isOfKind 2 (some .boolean)]
def wsL_law_r17 : List Cond := [Cond.methodLink RL 63 yX6_as, Cond.instanceMethod yX6_as, Cond.selects RX6 yX6_as yX6_as, Cond.code yX6_as cX6_as 5 (some .int), Cond.methodLink RL 64 yX5_take, Cond.instanceMethod yX5_take, Cond.selects RX5 yX5_take yX5_take, Cond.code yX5_take cX5_take 2 (some .int), Cond.methodLink RX5 150 yX3_takeAllIn, Cond.instanceMethod yX3_takeAllIn, Cond.selects RX3 yX3_takeAllIn yX3_takeAllIn, Cond.code yX3_takeAllIn cX3_takeAllIn 4 (some .int), Cond.methodLink RL 67 yX6_take, Cond.instanceMethod yX6_take, Cond.selects RX6 yX6_take yX6_take, Cond.code yX6_take cX6_take 4 (some .int), Cond.methodLink RL 68 yX5_share, Cond.instanceMethod yX5_share, Cond.selects RX5 yX5_share yX5_share, Cond.code yX5_share cX5_share 2 (some .int), Cond.methodLink RX5 153 yX3_worthBelonging, Cond.instanceMethod yX3_worthBelonging, Cond.selects RX3 yX3_worthBelonging yX3_worthBelonging, Cond.code yX3_worthBelonging cX3_worthBelonging 6 (some .int)]
def wsL_law_r18 : List Cond := [Cond.methodLink RX3 72 yX4_nearestStair, Cond.methodLink RL 71 yX6_share, Cond.instanceMethod yX6_share, Cond.selects RX6 yX6_share yX6_share, Cond.code yX6_share cX6_share 3 (some .int), Cond.methodLink RX6 152 yX6_shareOf, Cond.instanceMethod yX6_shareOf, Cond.selects RX6 yX6_shareOf yX6_shareOf, Cond.code yX6_shareOf cX6_shareOf 5 (some .int), Cond.methodLink RL 72 yX5_best, Cond.instanceMethod yX5_best, Cond.selects RX5 yX5_best yX5_best, Cond.code yX5_best cX5_best 5 (some .int), Cond.fieldLink RX5 168 "LowWater$Child" "first" "I", Cond.methodLink RX5 157 yX3_copyFrom, Cond.instanceMethod yX3_copyFrom, Cond.selects RX3 yX3_copyFrom yX3_copyFrom, Cond.code yX3_copyFrom cX3_copyFrom 2 none, Cond.methodLink RX3 40 arraycopyName, Cond.native arraycopyName, Cond.static arraycopyName, Cond.initialized "java/lang/System", Cond.methodLink RX5 161 yX0_lookAhead, Cond.instanceMethod yX0_lookAhead]
def wsL_law_r19 : List Cond := [Cond.selects RX0 yX0_lookAhead yX0_lookAhead, Cond.code yX0_lookAhead cX0_lookAhead 5 none, Cond.methodLink RX0 32 Lib.Math.min.name, Cond.static Lib.Math.min.name, Cond.code Lib.Math.min.name Lib.Math.min.code 2 (some .int), Cond.methodLink RX0 38 Lib.Math.max.name, Cond.fieldLink RX0 41 "LowWater$Scene" "worths" "[I", Cond.methodLink RX0 44 arraycopyName, Cond.methodLink RX0 50 yX4_hasStair, Cond.methodLink RX0 56 yX0_look, Cond.instanceMethod yX0_look, Cond.selects RX0 yX0_look yX0_look, Cond.code yX0_look cX0_look 5 none, Cond.fieldLink RX0 64 "LowWater$Scene" "hour" "I", Cond.fieldLink RX0 67 "LowWater$Scene" "barge" "I", Cond.fieldLink RX0 74 "LowWater$Scene" "thingCount" "I", Cond.fieldLink RX0 77 "LowWater$Scene" "places" "[I", Cond.methodLink RX0 70 yX4_isDry, Cond.methodLink RX0 60 yX3_goOn, Cond.methodLink RX5 165 yX0_bestFrom, Cond.instanceMethod yX0_bestFrom, Cond.selects RX0 yX0_bestFrom yX0_bestFrom, Cond.code yX0_bestFrom cX0_bestFrom 5 (some .int), Cond.methodLink RX0 83 yX0_worthOf]
def wsL_law_r20 : List Cond := [Cond.instanceMethod yX0_worthOf, Cond.selects RX0 yX0_worthOf yX0_worthOf, Cond.code yX0_worthOf cX0_worthOf 4 (some .int), Cond.methodLink RX0 87 yX0_walked, Cond.static yX0_walked, Cond.code yX0_walked cX0_walked 7 (some .int), Cond.methodLink RL 75 yX6_best, Cond.instanceMethod yX6_best, Cond.selects RX6 yX6_best yX6_best, Cond.code yX6_best cX6_best 9 (some .int), Cond.fieldLink RX6 155 "LowWaterModel" "done" "I", Cond.methodLink RX6 158 yX6_layLies, Cond.instanceMethod yX6_layLies, Cond.selects RX6 yX6_layLies yX6_layLies, Cond.code yX6_layLies cX6_layLies 4 none, Cond.methodLink RX6 162 yX6_worthOf, Cond.instanceMethod yX6_worthOf, Cond.selects RX6 yX6_worthOf yX6_worthOf, Cond.code yX6_worthOf cX6_worthOf 11 (some .int), Cond.methodLink RL 76 yX5_whence, Cond.instanceMethod yX5_whence, Cond.selects RX5 yX5_whence yX5_whence, Cond.code yX5_whence cX5_whence 6 (some .int), Cond.methodLink RX5 171 yX5_placeNow]
def wsL_law_r21 : List Cond := [Cond.instanceMethod yX5_placeNow, Cond.selects RX5 yX5_placeNow yX5_placeNow, Cond.code yX5_placeNow cX5_placeNow 6 (some .int), Cond.methodLink RX5 245 yX4_drifted, Cond.methodLink RL 79 yX6_whence, Cond.instanceMethod yX6_whence, Cond.selects RX6 yX6_whence yX6_whence, Cond.code yX6_whence cX6_whence 8 (some .int), Cond.constantLong RX6 165 (12), Cond.methodLink RL 80 yX5_uncovered, Cond.instanceMethod yX5_uncovered, Cond.selects RX5 yX5_uncovered yX5_uncovered, Cond.code yX5_uncovered cX5_uncovered 4 (some .int), Cond.methodLink RL 83 yX6_uncovered, Cond.instanceMethod yX6_uncovered, Cond.selects RX6 yX6_uncovered yX6_uncovered, Cond.code yX6_uncovered cX6_uncovered 4 (some .int), Cond.methodLink RL 84 yX5_bell, Cond.instanceMethod yX5_bell, Cond.selects RX5 yX5_bell yX5_bell, Cond.code yX5_bell cX5_bell 3 (some .int), Cond.methodLink RL 87 yX6_bell, Cond.instanceMethod yX6_bell, Cond.selects RX6 yX6_bell yX6_bell]
def wsL_law_r22 : List Cond := [Cond.code yX6_bell cX6_bell 3 (some .int), Cond.methodLink RL 88 yX5_newStair, Cond.instanceMethod yX5_newStair, Cond.selects RX5 yX5_newStair yX5_newStair, Cond.code yX5_newStair cX5_newStair 5 (some .int), Cond.methodLink RL 91 yX6_newStair, Cond.instanceMethod yX6_newStair, Cond.selects RX6 yX6_newStair yX6_newStair, Cond.code yX6_newStair cX6_newStair 1 (some .int), Cond.methodLink RX6 167 yX6_newStairOf, Cond.instanceMethod yX6_newStairOf, Cond.selects RX6 yX6_newStairOf yX6_newStairOf, Cond.code yX6_newStairOf cX6_newStairOf 5 (some .int), Cond.methodLink RL 92 yX5_mark, Cond.instanceMethod yX5_mark, Cond.selects RX5 yX5_mark yX5_mark, Cond.code yX5_mark cX5_mark 4 (some .int), Cond.fieldLink RX5 178 "LowWater$Scene" "markCount" "I", Cond.methodLink RX5 181 yX3_beginMarks, Cond.instanceMethod yX3_beginMarks, Cond.selects RX3 yX3_beginMarks yX3_beginMarks, Cond.code yX3_beginMarks cX3_beginMarks 3 none, Cond.methodLink RL 95 yX6_mark, Cond.instanceMethod yX6_mark]
def wsL_law_r23 : List Cond := [Cond.selects RX6 yX6_mark yX6_mark, Cond.code yX6_mark cX6_mark 4 (some .int), Cond.fieldLink RX6 170 "LowWaterModel" "markHour" "I", Cond.methodLink RL 96 yX5_then, Cond.instanceMethod yX5_then, Cond.selects RX5 yX5_then yX5_then, Cond.code yX5_then cX5_then 2 (some .int), Cond.methodLink RX5 185 yX3_addMark, Cond.instanceMethod yX3_addMark, Cond.selects RX3 yX3_addMark yX3_addMark, Cond.code yX3_addMark cX3_addMark 2 (some .int), Cond.methodLink RL 99 yX6_then, Cond.instanceMethod yX6_then, Cond.selects RX6 yX6_then yX6_then, Cond.code yX6_then cX6_then 2 (some .int), Cond.methodLink RL 100 yX5_fits, Cond.instanceMethod yX5_fits, Cond.selects RX5 yX5_fits yX5_fits, Cond.code yX5_fits cX5_fits 3 (some .int), Cond.methodLink RX5 188 yX3_couldBe, Cond.instanceMethod yX3_couldBe, Cond.selects RX3 yX3_couldBe yX3_couldBe, Cond.code yX3_couldBe cX3_couldBe 4 (some .boolean), Cond.methodLink RL 103 yX6_fits]
def wsL_law_r24 : List Cond := [Cond.instanceMethod yX6_fits, Cond.selects RX6 yX6_fits yX6_fits, Cond.code yX6_fits cX6_fits 1 (some .int), Cond.methodLink RX6 173 yX6_fitsOf, Cond.instanceMethod yX6_fitsOf, Cond.selects RX6 yX6_fitsOf yX6_fitsOf, Cond.code yX6_fitsOf cX6_fitsOf 5 (some .int), Cond.methodLink RL 104 yX5_days, Cond.instanceMethod yX5_days, Cond.selects RX5 yX5_days yX5_days, Cond.code yX5_days cX5_days 5 (some .int), Cond.fieldLink RX5 192 "LowWater$Draws" "seed" "J", Cond.methodLink RX5 196 yX3_takeByDraw, Cond.instanceMethod yX3_takeByDraw, Cond.selects RX3 yX3_takeByDraw yX3_takeByDraw, Cond.code yX3_takeByDraw cX3_takeByDraw 4 none, Cond.methodLink RX3 56 yX1_next, Cond.instanceMethod yX1_next, Cond.selects RX1 yX1_next yX1_next, Cond.code yX1_next cX1_next 2 (some .int), Cond.constantLong RX1 13 (1103515245), Cond.constantLong RX1 15 (12345), Cond.constantLong RX1 17 (2147483648), Cond.constantLong RX1 19 (65536)]
def wsL_law_r25 : List Cond := [Cond.methodLink RX3 61 yX3_isThing, Cond.methodLink RX3 65 yX4_isDry, Cond.methodLink RX5 200 yX3_worthTaken, Cond.instanceMethod yX3_worthTaken, Cond.selects RX3 yX3_worthTaken yX3_worthTaken, Cond.code yX3_worthTaken cX3_worthTaken 3 (some .int), Cond.methodLink RX5 203 yX3_cellsTogether, Cond.instanceMethod yX3_cellsTogether, Cond.selects RX3 yX3_cellsTogether yX3_cellsTogether, Cond.code yX3_cellsTogether cX3_cellsTogether 3 (some .int), Cond.methodLink RL 107 yX6_days, Cond.instanceMethod yX6_days, Cond.selects RX6 yX6_days yX6_days, Cond.code yX6_days cX6_days 8 (some .int), Cond.constantLong RX6 186 (60), Cond.fieldLink RX6 178 "LowWaterModel" "seedNow" "I", Cond.methodLink RX6 188 yX6_draw, Cond.instanceMethod yX6_draw, Cond.selects RX6 yX6_draw yX6_draw, Cond.code yX6_draw cX6_draw 2 (some .int), Cond.constantLong RX6 176 (1103515245), Cond.constantLong RX6 181 (12345), Cond.constantLong RX6 183 (2147483647), Cond.constant RX6 185 (65536)]
def wsL_law_r26 : List Cond := [Cond.methodLink RL 108 yX5_image, Cond.instanceMethod yX5_image, Cond.selects RX5 yX5_image yX5_image, Cond.code yX5_image cX5_image 1 (some .int), Cond.methodLink RL 111 yX6_image, Cond.instanceMethod yX6_image, Cond.selects RX6 yX6_image yX6_image, Cond.code yX6_image cX6_image 1 (some .int), Cond.fieldLink RX6 195 "LowWaterModel" "keptThings" "I", Cond.fieldLink RX6 198 "LowWaterModel" "keptBarge" "I", Cond.fieldLink RX6 201 "LowWaterModel" "keptHour" "I", Cond.fieldLink RX6 204 "LowWaterModel" "keptMarkHour" "I", Cond.fieldLink RX6 207 "LowWaterModel" "keptMarkMany" "I", Cond.methodLink RX6 191 yX6_copy, Cond.static yX6_copy, Cond.code yX6_copy cX6_copy 3 none, Cond.methodLink RL 112 yX5_restore, Cond.instanceMethod yX5_restore, Cond.selects RX5 yX5_restore yX5_restore, Cond.code yX5_restore cX5_restore 1 (some .int), Cond.fieldLink RX5 206 "LowWater$Scene" "thingCount" "I", Cond.methodLink RL 115 yX6_restore, Cond.instanceMethod yX6_restore, Cond.selects RX6 yX6_restore yX6_restore]
def wsL_law_r27 : List Cond := [Cond.code yX6_restore cX6_restore 1 (some .int), Cond.methodLink RL 116 yX5_count, Cond.instanceMethod yX5_count, Cond.selects RX5 yX5_count yX5_count, Cond.code yX5_count cX5_count 2 (some .int), Cond.methodLink RX5 209 yX4_stairCount, Cond.instanceMethod yX4_stairCount, Cond.selects RX4 yX4_stairCount yX4_stairCount, Cond.code yX4_stairCount cX4_stairCount 1 (some .int), Cond.methodLink RX4 42 yJ6_bitCount_0f7a4, Cond.static yJ6_bitCount_0f7a4, Cond.initialized RJ6, Cond.code yJ6_bitCount_0f7a4 cJ6_bitCount_0f7a4 1 (some .int), Cond.constant RJ6 265 (1431655765), Cond.constant RJ6 266 (858993459), Cond.constant RJ6 267 (252645135), Cond.methodLink RX5 212 yX3_countInCells, Cond.instanceMethod yX3_countInCells, Cond.selects RX3 yX3_countInCells yX3_countInCells, Cond.code yX3_countInCells cX3_countInCells 1 (some .int), Cond.methodLink RX3 52 yX3_countIn, Cond.methodLink RL 119 yX6_count, Cond.instanceMethod yX6_count, Cond.selects RX6 yX6_count yX6_count]
def wsL_law_r28 : List Cond := [Cond.code yX6_count cX6_count 2 (some .int), Cond.methodLink RX6 210 yX6_countOf, Cond.instanceMethod yX6_countOf, Cond.selects RX6 yX6_countOf yX6_countOf, Cond.code yX6_countOf cX6_countOf 6 (some .int), Cond.methodLink RL 120 yX5_digest, Cond.instanceMethod yX5_digest, Cond.selects RX5 yX5_digest yX5_digest, Cond.code yX5_digest cX5_digest 5 (some .long), Cond.constantLong RX5 215 (691), Cond.constantLong RX5 221 (31), Cond.fieldLink RX5 229 "LowWater$Page" "letters" "[C", Cond.methodLink RX5 217 yX5_shoreDigest, Cond.instanceMethod yX5_shoreDigest, Cond.selects RX5 yX5_shoreDigest yX5_shoreDigest, Cond.code yX5_shoreDigest cX5_shoreDigest 7 (some .long), Cond.fieldLink RX5 239 "LowWater$Shore" "heights" "[I", Cond.methodLink RX5 236 yX5_cell, Cond.methodLink RX5 242 yX5_newStair, Cond.methodLink RX5 223 yX5_about, Cond.methodLink RX5 226 yX5_fits, Cond.methodLink RX5 233 yX5_count, Cond.methodLink RL 124 yX6_digest, Cond.instanceMethod yX6_digest]
def wsL_law_r29 : List Cond := [Cond.selects RX6 yX6_digest yX6_digest, Cond.code yX6_digest cX6_digest 2 (some .long), Cond.constantLong RX6 219 (691), Cond.fieldLink RX6 215 "LowWaterModel" "hash" "J", Cond.methodLink RX6 221 yX6_say, Cond.instanceMethod yX6_say, Cond.selects RX6 yX6_say yX6_say, Cond.code yX6_say cX6_say 3 none, Cond.constantLong RX6 213 (31)]
def wsL_law : List Cond := (wsL_law_r1 ++ (wsL_law_r2 ++ (wsL_law_r3 ++ (wsL_law_r4 ++ (wsL_law_r5 ++ (wsL_law_r6 ++ (wsL_law_r7 ++ (wsL_law_r8 ++ (wsL_law_r9 ++ (wsL_law_r10 ++ (wsL_law_r11 ++ (wsL_law_r12 ++ (wsL_law_r13 ++ (wsL_law_r14 ++ (wsL_law_r15 ++ (wsL_law_r16 ++ (wsL_law_r17 ++ (wsL_law_r18 ++ (wsL_law_r19 ++ (wsL_law_r20 ++ (wsL_law_r21 ++ (wsL_law_r22 ++ (wsL_law_r23 ++ (wsL_law_r24 ++ (wsL_law_r25 ++ (wsL_law_r26 ++ (wsL_law_r27 ++ (wsL_law_r28 ++ wsL_law_r29)))))))))))))))))))))))))))) ++ wsX50 ++ wsX60 ++ wsX20 ++ wsX40 ++ wsX30 ++ wsX10 ++ wsX00 ++ ([] : List Cond)
set_option maxRecDepth 20000 in
theorem wsL_law_in : ∀ w ∈ wsL_law, w ∈ lw_tbl := fun w h => (goodIn_p wsL_law [43, 46, 51, 69, 92, 138, 149, 543, 206, 209, 212, 217, 645, 221, 650, 225, 229, 232, 235, 238, 241, 654, 658, 662, 666, 670, 245, 249, 253, 258, 263, 674, 267, 272, 276, 281, 285, 289, 292, 296, 299, 302, 306, 678, 681, 687, 691, 695, 699, 703, 707, 310, 711, 315, 716, 319, 323, 327, 330, 337, 720, 724, 343, 348, 728, 352, 356, 360, 734, 738, 742, 745, 748, 365, 368, 753, 372, 376, 757, 380, 384, 761, 765, 389, 393, 400, 403, 410, 417, 421, 424, 769, 773, 777, 428, 432, 781, 437, 786, 441, 790, 445, 794, 798, 449, 453, 802, 457, 461, 806, 465, 469, 810, 814, 473, 477, 481, 491, 495, 818, 823, 500, 831, 834, 504, 838, 508, 512, 515, 522, 842, 846, 527, 532, 850, 855] (by decide +kernel) (by decide +kernel) w h).1
theorem inlX0 : ∀ w ∈ wsX00, w ∈ wsL_law := fun _ h => List.mem_append_left _ (List.mem_append_right _ h)
theorem inX0 : ∀ w ∈ wsX00, w ∈ lw_tbl := fun w h => wsL_law_in w (inlX0 w h)
theorem inlX1 : ∀ w ∈ wsX10, w ∈ wsL_law := fun _ h => List.mem_append_left _ (List.mem_append_left _ (List.mem_append_right _ h))
theorem inX1 : ∀ w ∈ wsX10, w ∈ lw_tbl := fun w h => wsL_law_in w (inlX1 w h)
theorem inlX2 : ∀ w ∈ wsX20, w ∈ wsL_law := fun _ h => List.mem_append_left _ (List.mem_append_left _ (List.mem_append_left _ (List.mem_append_left _ (List.mem_append_left _ (List.mem_append_right _ h)))))
theorem inX2 : ∀ w ∈ wsX20, w ∈ lw_tbl := fun w h => wsL_law_in w (inlX2 w h)
theorem inlX3 : ∀ w ∈ wsX30, w ∈ wsL_law := fun _ h => List.mem_append_left _ (List.mem_append_left _ (List.mem_append_left _ (List.mem_append_right _ h)))
theorem inX3 : ∀ w ∈ wsX30, w ∈ lw_tbl := fun w h => wsL_law_in w (inlX3 w h)
theorem inlX4 : ∀ w ∈ wsX40, w ∈ wsL_law := fun _ h => List.mem_append_left _ (List.mem_append_left _ (List.mem_append_left _ (List.mem_append_left _ (List.mem_append_right _ h))))
theorem inX4 : ∀ w ∈ wsX40, w ∈ lw_tbl := fun w h => wsL_law_in w (inlX4 w h)
theorem inlX5 : ∀ w ∈ wsX50, w ∈ wsL_law := fun _ h => List.mem_append_left _ (List.mem_append_left _ (List.mem_append_left _ (List.mem_append_left _ (List.mem_append_left _ (List.mem_append_left _ (List.mem_append_left _ (List.mem_append_right _ h)))))))
theorem inX5 : ∀ w ∈ wsX50, w ∈ lw_tbl := fun w h => wsL_law_in w (inlX5 w h)
theorem inlX6 : ∀ w ∈ wsX60, w ∈ wsL_law := fun _ h => List.mem_append_left _ (List.mem_append_left _ (List.mem_append_left _ (List.mem_append_left _ (List.mem_append_left _ (List.mem_append_left _ (List.mem_append_right _ h))))))
theorem inX6 : ∀ w ∈ wsX60, w ∈ lw_tbl := fun w h => wsL_law_in w (inlX6 w h)
theorem inJ6 : ∀ w ∈ wsJ60, w ∈ lw_tbl := by decide +kernel
theorem inJ9 : ∀ w ∈ wsJ90, w ∈ lw_tbl := by decide +kernel
theorem inJ10 : ∀ w ∈ wsJ100, w ∈ lw_tbl := by decide +kernel
set_option maxRecDepth 20000 in
theorem ggL_law_X5_init : GoodIn wsL_law wsX5_init := goodIn_r _ [9, 10, 11, 12, 13, 14, 15, 16, 17, 18, 19, 20, 21, 22, 23, 24, 25, 26, 27, 28, 29, 30, 31, 32, 33, 34, 35, 36, 37, 38, 39, 40, 41, 42, 43, 44, 45, 46, 47, 48, 49, 50, 51, 52, 53, 54, 55, 56, 57, 58, 59, 60, 61, 62, 63, 64, 65, 66, 67, 68, 69, 70, 71, 72, 73, 74, 75, 76, 77, 723, 724, 681, 682, 683, 684, 685, 686, 687, 688, 689, 690, 725, 726, 727, 728, 729, 730, 731, 732, 733, 734, 735, 736, 737, 738, 739, 740, 741, 742, 743, 744] (by decide +kernel) (by decide +kernel)
set_option maxRecDepth 20000 in
theorem gL_law_X5_init : GoodIn wsL_law (wsX5_init) := ggL_law_X5_init
set_option maxRecDepth 20000 in
theorem ggL_law_X6_init : GoodIn wsL_law wsX6_init := goodIn_r _ [80, 81, 11, 12, 47, 82, 83, 84, 85, 86, 87, 88, 89, 90, 91, 92, 93, 94, 691, 692, 693, 694, 695, 696, 697, 698, 699, 700, 701, 702, 703, 704, 705, 706, 707, 708, 709, 710, 711, 712, 713, 714, 715, 716, 717, 718, 719, 720, 721, 722] (by decide +kernel) (by decide +kernel)
set_option maxRecDepth 20000 in
theorem gL_law_X6_init : GoodIn wsL_law (wsX6_init) := ggL_law_X6_init
set_option maxRecDepth 20000 in
theorem ggL_law_X5_letters : GoodIn wsL_law wsX5_letters := goodIn_r _ [98, 16, 99, 100, 101, 15, 102, 103, 104, 105, 106, 107, 108, 109, 110, 43, 42, 681, 682, 683, 684, 685, 686, 687, 688, 689, 690, 723, 724] (by decide +kernel) (by decide +kernel)
set_option maxRecDepth 20000 in
theorem gL_law_X5_letters : GoodIn wsL_law (wsV RL 15 RX5 yX5_letters wsX5_letters) := goodIn_app (goodIn_of _ (by decide +kernel)) ggL_law_X5_letters
set_option maxRecDepth 20000 in
theorem ggL_law_X6_letters : GoodIn wsL_law wsX6_letters := goodIn_r _ [114, 115, 116, 82, 691, 692, 693, 694, 695, 696, 697, 698, 699, 700, 701, 702, 703, 704, 705, 706, 707, 708, 709, 710, 711, 712, 713, 714, 715, 716, 717, 718, 719, 720, 721, 722] (by decide +kernel) (by decide +kernel)
set_option maxRecDepth 20000 in
theorem gL_law_X6_letters : GoodIn wsL_law (wsV RL 19 RX6 yX6_letters wsX6_letters) := goodIn_app (goodIn_of _ (by decide +kernel)) ggL_law_X6_letters
set_option maxRecDepth 20000 in
theorem ggL_law_X5_blank : GoodIn wsL_law wsX5_blank := goodIn_r _ [120, 16, 99, 681, 682, 683, 684, 685, 686, 687, 688, 689, 690, 723, 724] (by decide +kernel) (by decide +kernel)
set_option maxRecDepth 20000 in
theorem gL_law_X5_blank : GoodIn wsL_law (wsV RL 20 RX5 yX5_blank wsX5_blank) := goodIn_app (goodIn_of _ (by decide +kernel)) ggL_law_X5_blank
set_option maxRecDepth 20000 in
theorem ggL_law_X6_blank : GoodIn wsL_law wsX6_blank := goodIn_r _ [124, 116, 691, 692, 693, 694, 695, 696, 697, 698, 699, 700, 701, 702, 703, 704, 705, 706, 707, 708, 709, 710, 711, 712, 713, 714, 715, 716, 717, 718, 719, 720, 721, 722] (by decide +kernel) (by decide +kernel)
set_option maxRecDepth 20000 in
theorem gL_law_X6_blank : GoodIn wsL_law (wsV RL 24 RX6 yX6_blank wsX6_blank) := goodIn_app (goodIn_of _ (by decide +kernel)) ggL_law_X6_blank
set_option maxRecDepth 20000 in
theorem ggL_law_X5_fault : GoodIn wsL_law wsX5_fault := goodIn_r _ [128, 16, 129, 130, 131, 15, 132, 43, 42, 133, 134, 135, 136, 137, 138, 139, 140, 141, 142, 2, 143, 681, 682, 683, 684, 685, 686, 687, 688, 689, 690, 723, 724] (by decide +kernel) (by decide +kernel)
set_option maxRecDepth 20000 in
theorem gL_law_X5_fault : GoodIn wsL_law (wsV RL 25 RX5 yX5_fault wsX5_fault) := goodIn_app (goodIn_of _ (by decide +kernel)) ggL_law_X5_fault
set_option maxRecDepth 20000 in
theorem ggL_law_X6_fault : GoodIn wsL_law wsX6_fault := goodIn_r _ [147, 148, 149, 150, 5, 151, 152, 153, 154, 116, 82, 155, 156, 157, 158, 159, 83, 84, 160, 161, 162, 163, 164, 165, 166, 691, 692, 693, 694, 695, 696, 697, 698, 699, 700, 701, 702, 703, 704, 705, 706, 707, 708, 709, 710, 711, 712, 713, 714, 715, 716, 717, 718, 719, 720, 721, 722] (by decide +kernel) (by decide +kernel)
set_option maxRecDepth 20000 in
theorem gL_law_X6_fault : GoodIn wsL_law (wsV RL 28 RX6 yX6_fault wsX6_fault) := goodIn_app (goodIn_of _ (by decide +kernel)) ggL_law_X6_fault
set_option maxRecDepth 20000 in
theorem ggL_law_X5_shore : GoodIn wsL_law wsX5_shore := goodIn_r _ [170, 16, 20, 24, 99, 35, 171, 172, 173, 174, 15, 175, 43, 176, 177, 178, 179, 42, 180, 130, 131, 132, 133, 134, 135, 136, 137, 138, 139, 140, 141, 142, 2, 143, 181, 182, 183, 19, 184, 48, 185, 51, 50, 186, 49, 187, 188, 189, 190, 23, 191, 58, 59, 60, 61, 681, 682, 683, 684, 685, 686, 687, 688, 689, 690, 723, 724, 725, 726, 727, 728, 729, 730, 731, 732, 733, 734, 735, 736, 737] (by decide +kernel) (by decide +kernel)
set_option maxRecDepth 20000 in
theorem gL_law_X5_shore : GoodIn wsL_law (wsV RL 29 RX5 yX5_shore wsX5_shore) := goodIn_app (goodIn_of _ (by decide +kernel)) ggL_law_X5_shore
set_option maxRecDepth 20000 in
theorem ggL_law_X6_shore : GoodIn wsL_law wsX6_shore := goodIn_r _ [195, 116, 154, 153, 85, 83, 86, 84, 196, 152, 197, 198, 94, 199, 200, 201, 148, 149, 150, 5, 151, 82, 155, 156, 157, 158, 159, 160, 161, 162, 163, 164, 165, 166, 691, 692, 693, 694, 695, 696, 697, 698, 699, 700, 701, 702, 703, 704, 705, 706, 707, 708, 709, 710, 711, 712, 713, 714, 715, 716, 717, 718, 719, 720, 721, 722] (by decide +kernel) (by decide +kernel)
set_option maxRecDepth 20000 in
theorem gL_law_X6_shore : GoodIn wsL_law (wsV RL 32 RX6 yX6_shore wsX6_shore) := goodIn_app (goodIn_of _ (by decide +kernel)) ggL_law_X6_shore
set_option maxRecDepth 20000 in
theorem ggL_law_X5_cell : GoodIn wsL_law wsX5_cell := goodIn_r _ [205, 20, 206, 24, 207, 142, 2, 143, 208, 209, 210, 211, 35, 212, 213, 214, 19, 215, 51, 216, 217, 218, 219, 220, 221, 222, 223, 224, 225, 226, 227, 228, 229, 50, 49, 230, 231, 232, 233, 234, 235, 236, 237, 238, 239, 240, 241, 48, 242, 243, 244, 245, 246, 247, 23, 248, 58, 56, 681, 682, 683, 684, 685, 686, 687, 688, 689, 690, 725, 726, 727, 728, 729, 730, 731, 732, 733, 734, 735, 736, 737] (by decide +kernel) (by decide +kernel)
set_option maxRecDepth 20000 in
theorem gL_law_X5_cell : GoodIn wsL_law (wsV RL 33 RX5 yX5_cell wsX5_cell) := goodIn_app (goodIn_of _ (by decide +kernel)) ggL_law_X5_cell
set_option maxRecDepth 20000 in
theorem ggL_law_X6_cell : GoodIn wsL_law wsX6_cell := goodIn_r _ [252, 253, 254, 255, 5, 256, 257, 164, 165, 166, 258, 259, 260, 261, 196, 262, 263, 264, 265, 85, 197, 198, 94, 266, 267, 268, 269, 270, 271, 272, 273, 86, 274, 275, 276, 277, 278, 279, 280, 281, 199, 87, 691, 692, 693, 694, 695, 696, 697, 698, 699, 700, 701, 702, 703, 704, 705, 706, 707, 708, 709, 710, 711, 712, 713, 714, 715, 716, 717, 718, 719, 720, 721, 722] (by decide +kernel) (by decide +kernel)
set_option maxRecDepth 20000 in
theorem gL_law_X6_cell : GoodIn wsL_law (wsV RL 37 RX6 yX6_cell wsX6_cell) := goodIn_app (goodIn_of _ (by decide +kernel)) ggL_law_X6_cell
set_option maxRecDepth 20000 in
theorem ggL_law_X5_tide : GoodIn wsL_law wsX5_tide := goodIn_r _ [285, 20, 24, 220, 208, 209, 210, 2, 211, 35, 286, 227, 228, 19, 229, 50, 49, 230, 231, 232, 233, 681, 682, 683, 684, 685, 686, 687, 688, 689, 690, 729, 730, 731, 732, 733, 734, 735, 736, 737, 725, 726, 727, 728] (by decide +kernel) (by decide +kernel)
set_option maxRecDepth 20000 in
theorem gL_law_X5_tide : GoodIn wsL_law (wsV RL 38 RX5 yX5_tide wsX5_tide) := goodIn_app (goodIn_of _ (by decide +kernel)) ggL_law_X5_tide
set_option maxRecDepth 20000 in
theorem ggL_law_X6_tide : GoodIn wsL_law wsX6_tide := goodIn_r _ [290, 291, 198, 164, 165, 5, 166, 258, 259, 260, 261, 196, 270, 271, 272, 273, 86, 691, 692, 693, 694, 695, 696, 697, 698, 699, 700, 701, 702, 703, 704, 705, 706, 707, 708, 709, 710, 711, 712, 713, 714, 715, 716, 717, 718, 719, 720, 721, 722] (by decide +kernel) (by decide +kernel)
set_option maxRecDepth 20000 in
theorem gL_law_X6_tide : GoodIn wsL_law (wsV RL 42 RX6 yX6_tide wsX6_tide) := goodIn_app (goodIn_of _ (by decide +kernel)) ggL_law_X6_tide
set_option maxRecDepth 20000 in
theorem ggL_law_X5_barge : GoodIn wsL_law wsX5_barge := goodIn_r _ [295, 24, 221, 207, 142, 2, 143, 208, 209, 210, 211, 35, 681, 682, 683, 684, 685, 686, 687, 688, 689, 690, 729, 730, 731, 732, 733, 734, 735, 736, 737] (by decide +kernel) (by decide +kernel)
set_option maxRecDepth 20000 in
theorem gL_law_X5_barge : GoodIn wsL_law (wsV RL 43 RX5 yX5_barge wsX5_barge) := goodIn_app (goodIn_of _ (by decide +kernel)) ggL_law_X5_barge
set_option maxRecDepth 20000 in
theorem ggL_law_X6_barge : GoodIn wsL_law wsX6_barge := goodIn_r _ [299, 94, 254, 255, 5, 256, 257, 164, 165, 166, 258, 259, 260, 261, 196, 691, 692, 693, 694, 695, 696, 697, 698, 699, 700, 701, 702, 703, 704, 705, 706, 707, 708, 709, 710, 711, 712, 713, 714, 715, 716, 717, 718, 719, 720, 721, 722] (by decide +kernel) (by decide +kernel)
set_option maxRecDepth 20000 in
theorem gL_law_X6_barge : GoodIn wsL_law (wsV RL 46 RX6 yX6_barge wsX6_barge) := goodIn_app (goodIn_of _ (by decide +kernel)) ggL_law_X6_barge
set_option maxRecDepth 20000 in
theorem ggL_law_X5_hour : GoodIn wsL_law wsX5_hour := goodIn_r _ [303, 24, 20, 208, 209, 210, 2, 211, 35, 304, 305, 306, 23, 307, 58, 55, 56, 60, 59, 308, 309, 310, 19, 311, 312, 313, 142, 143, 314, 223, 224, 225, 226, 227, 228, 229, 50, 49, 230, 231, 232, 233, 234, 235, 236, 237, 238, 239, 240, 241, 48, 242, 243, 244, 315, 316, 317, 318, 681, 682, 683, 684, 685, 686, 687, 688, 689, 690, 729, 730, 731, 732, 733, 734, 735, 736, 737, 725, 726, 727, 728] (by decide +kernel) (by decide +kernel)
set_option maxRecDepth 20000 in
theorem gL_law_X5_hour : GoodIn wsL_law (wsV RL 47 RX5 yX5_hour wsX5_hour) := goodIn_app (goodIn_of _ (by decide +kernel)) ggL_law_X5_hour
set_option maxRecDepth 20000 in
theorem ggL_law_X6_hour : GoodIn wsL_law wsX6_hour := goodIn_r _ [322, 199, 87, 198, 258, 259, 260, 5, 261, 196, 323, 324, 325, 326, 94, 266, 267, 268, 269, 270, 271, 272, 273, 86, 274, 275, 276, 277, 85, 691, 692, 693, 694, 695, 696, 697, 698, 699, 700, 701, 702, 703, 704, 705, 706, 707, 708, 709, 710, 711, 712, 713, 714, 715, 716, 717, 718, 719, 720, 721, 722] (by decide +kernel) (by decide +kernel)
set_option maxRecDepth 20000 in
theorem gL_law_X6_hour : GoodIn wsL_law (wsV RL 50 RX6 yX6_hour wsX6_hour) := goodIn_app (goodIn_of _ (by decide +kernel)) ggL_law_X6_hour
set_option maxRecDepth 20000 in
theorem ggL_law_X5_thing : GoodIn wsL_law wsX5_thing := goodIn_r _ [330, 24, 207, 142, 2, 143, 331, 312, 313, 208, 209, 210, 211, 35, 332, 333, 334, 23, 335, 58, 55, 56, 57, 681, 682, 683, 684, 685, 686, 687, 688, 689, 690, 729, 730, 731, 732, 733, 734, 735, 736, 737] (by decide +kernel) (by decide +kernel)
set_option maxRecDepth 20000 in
theorem gL_law_X5_thing : GoodIn wsL_law (wsV RL 51 RX5 yX5_thing wsX5_thing) := goodIn_app (goodIn_of _ (by decide +kernel)) ggL_law_X5_thing
set_option maxRecDepth 20000 in
theorem ggL_law_X6_thing : GoodIn wsL_law wsX6_thing := goodIn_r _ [339, 340, 341, 199, 87, 254, 255, 5, 256, 257, 164, 165, 166, 258, 259, 260, 261, 196, 691, 692, 693, 694, 695, 696, 697, 698, 699, 700, 701, 702, 703, 704, 705, 706, 707, 708, 709, 710, 711, 712, 713, 714, 715, 716, 717, 718, 719, 720, 721, 722] (by decide +kernel) (by decide +kernel)
set_option maxRecDepth 20000 in
theorem gL_law_X6_thing : GoodIn wsL_law (wsV RL 55 RX6 yX6_thing wsX6_thing) := goodIn_app (goodIn_of _ (by decide +kernel)) ggL_law_X6_thing
set_option maxRecDepth 20000 in
theorem ggL_law_X5_about : GoodIn wsL_law wsX5_about := goodIn_r _ [345, 24, 346, 347, 348, 20, 349, 350, 351, 23, 352, 58, 353, 354, 355, 19, 356, 238, 239, 240, 241, 142, 2, 143, 357, 213, 214, 215, 51, 681, 682, 683, 684, 685, 686, 687, 688, 689, 690, 729, 730, 731, 732, 733, 734, 735, 736, 737, 725, 726, 727, 728] (by decide +kernel) (by decide +kernel)
set_option maxRecDepth 20000 in
theorem gL_law_X5_about : GoodIn wsL_law (wsV RL 56 RX5 yX5_about wsX5_about) := goodIn_app (goodIn_of _ (by decide +kernel)) ggL_law_X5_about
set_option maxRecDepth 20000 in
theorem ggL_law_X6_about : GoodIn wsL_law wsX6_about := goodIn_r _ [361, 362, 363, 364, 5, 365, 199, 164, 165, 166, 366, 367, 368, 369, 87, 197, 370, 371, 372, 373, 374, 375, 376, 691, 692, 693, 694, 695, 696, 697, 698, 699, 700, 701, 702, 703, 704, 705, 706, 707, 708, 709, 710, 711, 712, 713, 714, 715, 716, 717, 718, 719, 720, 721, 722] (by decide +kernel) (by decide +kernel)
set_option maxRecDepth 20000 in
theorem gL_law_X6_about : GoodIn wsL_law (wsV RL 59 RX6 yX6_about wsX6_about) := goodIn_app (goodIn_of _ (by decide +kernel)) ggL_law_X6_about
set_option maxRecDepth 20000 in
theorem ggL_law_X5_as : GoodIn wsL_law wsX5_as := goodIn_r _ [380, 24, 346, 349, 350, 351, 23, 352, 58, 331, 312, 2, 313, 381, 382, 383, 681, 682, 683, 684, 685, 686, 687, 688, 689, 690, 729, 730, 731, 732, 733, 734, 735, 736, 737] (by decide +kernel) (by decide +kernel)
set_option maxRecDepth 20000 in
theorem gL_law_X5_as : GoodIn wsL_law (wsV RL 60 RX5 yX5_as wsX5_as) := goodIn_app (goodIn_of _ (by decide +kernel)) ggL_law_X5_as
set_option maxRecDepth 20000 in
theorem ggL_law_X6_as : GoodIn wsL_law wsX6_as := goodIn_r _ [387, 340, 87, 362, 363, 364, 5, 365, 199, 164, 165, 166, 691, 692, 693, 694, 695, 696, 697, 698, 699, 700, 701, 702, 703, 704, 705, 706, 707, 708, 709, 710, 711, 712, 713, 714, 715, 716, 717, 718, 719, 720, 721, 722] (by decide +kernel) (by decide +kernel)
set_option maxRecDepth 20000 in
theorem gL_law_X6_as : GoodIn wsL_law (wsV RL 63 RX6 yX6_as wsX6_as) := goodIn_app (goodIn_of _ (by decide +kernel)) ggL_law_X6_as
set_option maxRecDepth 20000 in
theorem ggL_law_X5_take : GoodIn wsL_law wsX5_take := goodIn_r _ [391, 24, 207, 142, 2, 143, 208, 209, 210, 211, 35, 216, 217, 218, 219, 20, 220, 221, 222, 223, 224, 19, 225, 226, 227, 228, 229, 50, 49, 230, 231, 232, 233, 234, 235, 236, 237, 238, 239, 240, 241, 48, 242, 243, 244, 392, 393, 394, 23, 395, 58, 56, 57, 681, 682, 683, 684, 685, 686, 687, 688, 689, 690, 729, 730, 731, 732, 733, 734, 735, 736, 737, 725, 726, 727, 728] (by decide +kernel) (by decide +kernel)
set_option maxRecDepth 20000 in
theorem gL_law_X5_take : GoodIn wsL_law (wsV RL 64 RX5 yX5_take wsX5_take) := goodIn_app (goodIn_of _ (by decide +kernel)) ggL_law_X5_take
set_option maxRecDepth 20000 in
theorem ggL_law_X6_take : GoodIn wsL_law wsX6_take := goodIn_r _ [399, 198, 94, 199, 87, 254, 255, 5, 256, 257, 164, 165, 166, 258, 259, 260, 261, 196, 266, 267, 268, 269, 270, 271, 272, 273, 86, 274, 275, 276, 277, 85, 691, 692, 693, 694, 695, 696, 697, 698, 699, 700, 701, 702, 703, 704, 705, 706, 707, 708, 709, 710, 711, 712, 713, 714, 715, 716, 717, 718, 719, 720, 721, 722] (by decide +kernel) (by decide +kernel)
set_option maxRecDepth 20000 in
theorem gL_law_X6_take : GoodIn wsL_law (wsV RL 67 RX6 yX6_take wsX6_take) := goodIn_app (goodIn_of _ (by decide +kernel)) ggL_law_X6_take
set_option maxRecDepth 20000 in
theorem ggL_law_X5_share : GoodIn wsL_law wsX5_share := goodIn_r _ [403, 20, 24, 207, 142, 2, 143, 212, 213, 214, 19, 215, 51, 404, 405, 406, 23, 407, 58, 56, 57, 408, 354, 355, 356, 238, 239, 240, 241, 357, 681, 682, 683, 684, 685, 686, 687, 688, 689, 690, 725, 726, 727, 728, 729, 730, 731, 732, 733, 734, 735, 736, 737] (by decide +kernel) (by decide +kernel)
set_option maxRecDepth 20000 in
theorem gL_law_X5_share : GoodIn wsL_law (wsV RL 68 RX5 yX5_share wsX5_share) := goodIn_app (goodIn_of _ (by decide +kernel)) ggL_law_X5_share
set_option maxRecDepth 20000 in
theorem ggL_law_X6_share : GoodIn wsL_law wsX6_share := goodIn_r _ [412, 197, 254, 255, 5, 256, 257, 164, 165, 166, 258, 259, 260, 261, 196, 413, 414, 415, 416, 199, 87, 371, 372, 373, 374, 375, 376, 691, 692, 693, 694, 695, 696, 697, 698, 699, 700, 701, 702, 703, 704, 705, 706, 707, 708, 709, 710, 711, 712, 713, 714, 715, 716, 717, 718, 719, 720, 721, 722] (by decide +kernel) (by decide +kernel)
set_option maxRecDepth 20000 in
theorem gL_law_X6_share : GoodIn wsL_law (wsV RL 71 RX6 yX6_share wsX6_share) := goodIn_app (goodIn_of _ (by decide +kernel)) ggL_law_X6_share
set_option maxRecDepth 20000 in
theorem ggL_law_X5_best : GoodIn wsL_law wsX5_best := goodIn_r _ [420, 36, 26, 24, 34, 20, 421, 207, 142, 2, 143, 208, 209, 210, 211, 35, 422, 423, 424, 23, 425, 55, 426, 427, 428, 429, 56, 57, 62, 58, 59, 60, 61, 63, 430, 431, 432, 33, 433, 434, 435, 240, 436, 437, 243, 244, 76, 438, 75, 439, 74, 440, 213, 214, 19, 215, 51, 441, 442, 443, 444, 71, 73, 445, 446, 447, 448, 449, 223, 224, 225, 226, 227, 228, 229, 50, 49, 230, 231, 232, 233, 234, 235, 236, 237, 238, 239, 241, 48, 242, 450, 305, 306, 307, 308, 309, 310, 311, 312, 313, 314, 315, 316, 317, 318, 451, 452, 453, 454, 77, 455, 456, 457, 458, 459, 460, 461, 681, 682, 683, 684, 685, 686, 687, 688, 689, 690, 739, 740, 741, 742, 743, 744, 729, 730, 731, 732, 733, 734, 735, 736, 737, 725, 726, 727, 728] (by decide +kernel) (by decide +kernel)
set_option maxRecDepth 20000 in
theorem gL_law_X5_best : GoodIn wsL_law (wsV RL 72 RX5 yX5_best wsX5_best) := goodIn_app (goodIn_of _ (by decide +kernel)) ggL_law_X5_best
set_option maxRecDepth 20000 in
theorem ggL_law_X6_best : GoodIn wsL_law wsX6_best := goodIn_r _ [465, 257, 466, 254, 255, 5, 256, 164, 165, 166, 258, 259, 260, 261, 196, 467, 468, 469, 470, 199, 88, 87, 198, 323, 324, 325, 326, 94, 266, 267, 268, 269, 270, 271, 272, 273, 86, 274, 275, 276, 277, 85, 471, 472, 473, 474, 197, 691, 692, 693, 694, 695, 696, 697, 698, 699, 700, 701, 702, 703, 704, 705, 706, 707, 708, 709, 710, 711, 712, 713, 714, 715, 716, 717, 718, 719, 720, 721, 722] (by decide +kernel) (by decide +kernel)
set_option maxRecDepth 20000 in
theorem gL_law_X6_best : GoodIn wsL_law (wsV RL 75 RX6 yX6_best wsX6_best) := goodIn_app (goodIn_of _ (by decide +kernel)) ggL_law_X6_best
set_option maxRecDepth 20000 in
theorem ggL_law_X5_whence : GoodIn wsL_law wsX5_whence := goodIn_r _ [478, 24, 220, 331, 312, 2, 313, 207, 142, 143, 208, 209, 210, 211, 35, 479, 480, 481, 482, 20, 221, 483, 309, 310, 19, 311, 314, 223, 224, 225, 226, 227, 228, 229, 50, 49, 230, 231, 232, 233, 234, 235, 236, 237, 238, 239, 240, 241, 48, 242, 243, 244, 315, 316, 317, 318, 681, 682, 683, 684, 685, 686, 687, 688, 689, 690, 729, 730, 731, 732, 733, 734, 735, 736, 737, 725, 726, 727, 728] (by decide +kernel) (by decide +kernel)
set_option maxRecDepth 20000 in
theorem gL_law_X5_whence : GoodIn wsL_law (wsV RL 76 RX5 yX5_whence wsX5_whence) := goodIn_app (goodIn_of _ (by decide +kernel)) ggL_law_X5_whence
set_option maxRecDepth 20000 in
theorem ggL_law_X6_whence : GoodIn wsL_law wsX6_whence := goodIn_r _ [487, 340, 488, 198, 164, 165, 5, 166, 254, 255, 256, 257, 258, 259, 260, 261, 196, 323, 324, 325, 326, 94, 266, 267, 268, 269, 270, 271, 272, 273, 86, 274, 275, 276, 277, 85, 691, 692, 693, 694, 695, 696, 697, 698, 699, 700, 701, 702, 703, 704, 705, 706, 707, 708, 709, 710, 711, 712, 713, 714, 715, 716, 717, 718, 719, 720, 721, 722] (by decide +kernel) (by decide +kernel)
set_option maxRecDepth 20000 in
theorem gL_law_X6_whence : GoodIn wsL_law (wsV RL 79 RX6 yX6_whence wsX6_whence) := goodIn_app (goodIn_of _ (by decide +kernel)) ggL_law_X6_whence
set_option maxRecDepth 20000 in
theorem ggL_law_X5_uncovered : GoodIn wsL_law wsX5_uncovered := goodIn_r _ [492, 20, 24, 220, 207, 142, 2, 143, 208, 209, 210, 211, 35, 216, 217, 218, 219, 221, 222, 223, 224, 19, 225, 226, 227, 228, 229, 50, 49, 230, 231, 232, 233, 234, 235, 236, 237, 238, 239, 240, 241, 48, 242, 243, 244, 681, 682, 683, 684, 685, 686, 687, 688, 689, 690, 729, 730, 731, 732, 733, 734, 735, 736, 737, 725, 726, 727, 728] (by decide +kernel) (by decide +kernel)
set_option maxRecDepth 20000 in
theorem gL_law_X5_uncovered : GoodIn wsL_law (wsV RL 80 RX5 yX5_uncovered wsX5_uncovered) := goodIn_app (goodIn_of _ (by decide +kernel)) ggL_law_X5_uncovered
set_option maxRecDepth 20000 in
theorem ggL_law_X6_uncovered : GoodIn wsL_law wsX6_uncovered := goodIn_r _ [496, 198, 94, 254, 255, 5, 256, 257, 164, 165, 166, 258, 259, 260, 261, 196, 266, 267, 268, 269, 270, 271, 272, 273, 86, 274, 275, 276, 277, 85, 691, 692, 693, 694, 695, 696, 697, 698, 699, 700, 701, 702, 703, 704, 705, 706, 707, 708, 709, 710, 711, 712, 713, 714, 715, 716, 717, 718, 719, 720, 721, 722] (by decide +kernel) (by decide +kernel)
set_option maxRecDepth 20000 in
theorem gL_law_X6_uncovered : GoodIn wsL_law (wsV RL 83 RX6 yX6_uncovered wsX6_uncovered) := goodIn_app (goodIn_of _ (by decide +kernel)) ggL_law_X6_uncovered
set_option maxRecDepth 20000 in
theorem ggL_law_X5_bell : GoodIn wsL_law wsX5_bell := goodIn_r _ [500, 20, 171, 24, 220, 208, 209, 210, 2, 211, 35, 286, 227, 228, 19, 229, 50, 49, 230, 231, 232, 233, 681, 682, 683, 684, 685, 686, 687, 688, 689, 690, 725, 726, 727, 728, 729, 730, 731, 732, 733, 734, 735, 736, 737] (by decide +kernel) (by decide +kernel)
set_option maxRecDepth 20000 in
theorem gL_law_X5_bell : GoodIn wsL_law (wsV RL 84 RX5 yX5_bell wsX5_bell) := goodIn_app (goodIn_of _ (by decide +kernel)) ggL_law_X5_bell
set_option maxRecDepth 20000 in
theorem ggL_law_X6_bell : GoodIn wsL_law wsX6_bell := goodIn_r _ [504, 159, 196, 198, 164, 165, 5, 166, 258, 259, 260, 261, 270, 271, 272, 273, 86, 691, 692, 693, 694, 695, 696, 697, 698, 699, 700, 701, 702, 703, 704, 705, 706, 707, 708, 709, 710, 711, 712, 713, 714, 715, 716, 717, 718, 719, 720, 721, 722] (by decide +kernel) (by decide +kernel)
set_option maxRecDepth 20000 in
theorem gL_law_X6_bell : GoodIn wsL_law (wsV RL 87 RX6 yX6_bell wsX6_bell) := goodIn_app (goodIn_of _ (by decide +kernel)) ggL_law_X6_bell
set_option maxRecDepth 20000 in
theorem ggL_law_X5_newStair : GoodIn wsL_law wsX5_newStair := goodIn_r _ [508, 20, 24, 208, 209, 210, 2, 211, 35, 212, 213, 214, 19, 215, 51, 142, 143, 404, 405, 406, 23, 407, 58, 56, 57, 408, 354, 355, 356, 238, 239, 240, 241, 357, 681, 682, 683, 684, 685, 686, 687, 688, 689, 690, 725, 726, 727, 728, 729, 730, 731, 732, 733, 734, 735, 736, 737] (by decide +kernel) (by decide +kernel)
set_option maxRecDepth 20000 in
theorem gL_law_X5_newStair : GoodIn wsL_law (wsV RL 88 RX5 yX5_newStair wsX5_newStair) := goodIn_app (goodIn_of _ (by decide +kernel)) ggL_law_X5_newStair
set_option maxRecDepth 20000 in
theorem ggL_law_X6_newStair : GoodIn wsL_law wsX6_newStair := goodIn_r _ [512, 258, 259, 260, 5, 261, 196, 513, 514, 515, 516, 197, 413, 414, 415, 416, 199, 87, 371, 372, 373, 374, 375, 376, 691, 692, 693, 694, 695, 696, 697, 698, 699, 700, 701, 702, 703, 704, 705, 706, 707, 708, 709, 710, 711, 712, 713, 714, 715, 716, 717, 718, 719, 720, 721, 722] (by decide +kernel) (by decide +kernel)
set_option maxRecDepth 20000 in
theorem gL_law_X6_newStair : GoodIn wsL_law (wsV RL 91 RX6 yX6_newStair wsX6_newStair) := goodIn_app (goodIn_of _ (by decide +kernel)) ggL_law_X6_newStair
set_option maxRecDepth 20000 in
theorem ggL_law_X5_mark : GoodIn wsL_law wsX5_mark := goodIn_r _ [520, 24, 521, 207, 142, 2, 143, 208, 209, 210, 211, 35, 522, 523, 524, 23, 525, 63, 62, 61, 681, 682, 683, 684, 685, 686, 687, 688, 689, 690, 729, 730, 731, 732, 733, 734, 735, 736, 737] (by decide +kernel) (by decide +kernel)
set_option maxRecDepth 20000 in
theorem gL_law_X5_mark : GoodIn wsL_law (wsV RL 92 RX5 yX5_mark wsX5_mark) := goodIn_app (goodIn_of _ (by decide +kernel)) ggL_law_X5_mark
set_option maxRecDepth 20000 in
theorem ggL_law_X6_mark : GoodIn wsL_law wsX6_mark := goodIn_r _ [529, 291, 200, 530, 89, 164, 165, 5, 166, 254, 255, 256, 257, 258, 259, 260, 261, 196, 691, 692, 693, 694, 695, 696, 697, 698, 699, 700, 701, 702, 703, 704, 705, 706, 707, 708, 709, 710, 711, 712, 713, 714, 715, 716, 717, 718, 719, 720, 721, 722] (by decide +kernel) (by decide +kernel)
set_option maxRecDepth 20000 in
theorem gL_law_X6_mark : GoodIn wsL_law (wsV RL 95 RX6 yX6_mark wsX6_mark) := goodIn_app (goodIn_of _ (by decide +kernel)) ggL_law_X6_mark
set_option maxRecDepth 20000 in
theorem ggL_law_X5_then : GoodIn wsL_law wsX5_then := goodIn_r _ [534, 24, 521, 207, 142, 2, 143, 535, 536, 537, 23, 538, 61, 62, 681, 682, 683, 684, 685, 686, 687, 688, 689, 690, 729, 730, 731, 732, 733, 734, 735, 736, 737] (by decide +kernel) (by decide +kernel)
set_option maxRecDepth 20000 in
theorem gL_law_X5_then : GoodIn wsL_law (wsV RL 96 RX5 yX5_then wsX5_then) := goodIn_app (goodIn_of _ (by decide +kernel)) ggL_law_X5_then
set_option maxRecDepth 20000 in
theorem ggL_law_X6_then : GoodIn wsL_law wsX6_then := goodIn_r _ [542, 200, 89, 254, 255, 5, 256, 257, 164, 165, 166, 691, 692, 693, 694, 695, 696, 697, 698, 699, 700, 701, 702, 703, 704, 705, 706, 707, 708, 709, 710, 711, 712, 713, 714, 715, 716, 717, 718, 719, 720, 721, 722] (by decide +kernel) (by decide +kernel)
set_option maxRecDepth 20000 in
theorem gL_law_X6_then : GoodIn wsL_law (wsV RL 99 RX6 yX6_then wsX6_then) := goodIn_app (goodIn_of _ (by decide +kernel)) ggL_law_X6_then
set_option maxRecDepth 20000 in
theorem ggL_law_X5_fits : GoodIn wsL_law wsX5_fits := goodIn_r _ [546, 24, 521, 20, 547, 548, 549, 23, 550, 61, 62, 63, 59, 308, 309, 310, 19, 311, 312, 2, 313, 142, 143, 314, 223, 224, 225, 226, 227, 228, 229, 50, 49, 230, 231, 232, 233, 234, 235, 236, 237, 238, 239, 240, 241, 48, 242, 243, 244, 315, 316, 317, 318, 681, 682, 683, 684, 685, 686, 687, 688, 689, 690, 729, 730, 731, 732, 733, 734, 735, 736, 737, 725, 726, 727, 728] (by decide +kernel) (by decide +kernel)
set_option maxRecDepth 20000 in
theorem gL_law_X5_fits : GoodIn wsL_law (wsV RL 100 RX5 yX5_fits wsX5_fits) := goodIn_app (goodIn_of _ (by decide +kernel)) ggL_law_X5_fits
set_option maxRecDepth 20000 in
theorem ggL_law_X6_fits : GoodIn wsL_law wsX6_fits := goodIn_r _ [554, 200, 555, 556, 557, 5, 558, 89, 530, 323, 324, 325, 326, 94, 266, 267, 268, 269, 270, 271, 272, 273, 86, 196, 274, 275, 276, 277, 85, 691, 692, 693, 694, 695, 696, 697, 698, 699, 700, 701, 702, 703, 704, 705, 706, 707, 708, 709, 710, 711, 712, 713, 714, 715, 716, 717, 718, 719, 720, 721, 722] (by decide +kernel) (by decide +kernel)
set_option maxRecDepth 20000 in
theorem gL_law_X6_fits : GoodIn wsL_law (wsV RL 103 RX6 yX6_fits wsX6_fits) := goodIn_app (goodIn_of _ (by decide +kernel)) ggL_law_X6_fits
set_option maxRecDepth 20000 in
theorem ggL_law_X5_days : GoodIn wsL_law wsX5_days := goodIn_r _ [562, 26, 24, 30, 563, 20, 208, 209, 210, 2, 211, 35, 422, 423, 424, 23, 425, 55, 426, 427, 428, 429, 56, 57, 62, 58, 59, 60, 61, 63, 564, 565, 566, 567, 568, 569, 570, 29, 571, 572, 67, 573, 574, 575, 576, 350, 351, 352, 577, 223, 224, 19, 225, 142, 143, 226, 227, 228, 229, 50, 49, 230, 231, 232, 233, 234, 235, 236, 237, 238, 239, 240, 241, 48, 242, 243, 244, 304, 305, 306, 307, 308, 309, 310, 311, 312, 313, 314, 315, 316, 317, 318, 578, 579, 580, 581, 245, 246, 247, 248, 582, 583, 584, 585, 681, 682, 683, 684, 685, 686, 687, 688, 689, 690, 738, 729, 730, 731, 732, 733, 734, 735, 736, 737, 725, 726, 727, 728] (by decide +kernel) (by decide +kernel)
set_option maxRecDepth 20000 in
theorem gL_law_X5_days : GoodIn wsL_law (wsV RL 104 RX5 yX5_days wsX5_days) := goodIn_app (goodIn_of _ (by decide +kernel)) ggL_law_X5_days
set_option maxRecDepth 20000 in
theorem ggL_law_X6_days : GoodIn wsL_law wsX6_days := goodIn_r _ [589, 590, 253, 199, 90, 87, 591, 198, 94, 164, 165, 5, 166, 258, 259, 260, 261, 196, 592, 593, 594, 595, 596, 597, 598, 599, 266, 267, 268, 269, 270, 271, 272, 273, 86, 274, 275, 276, 277, 85, 323, 324, 325, 326, 691, 692, 693, 694, 695, 696, 697, 698, 699, 700, 701, 702, 703, 704, 705, 706, 707, 708, 709, 710, 711, 712, 713, 714, 715, 716, 717, 718, 719, 720, 721, 722] (by decide +kernel) (by decide +kernel)
set_option maxRecDepth 20000 in
theorem gL_law_X6_days : GoodIn wsL_law (wsV RL 107 RX6 yX6_days wsX6_days) := goodIn_app (goodIn_of _ (by decide +kernel)) ggL_law_X6_days
set_option maxRecDepth 20000 in
theorem ggL_law_X5_image : GoodIn wsL_law wsX5_image := goodIn_r _ [603, 25, 24, 35, 37, 220, 208, 209, 210, 2, 211, 422, 423, 424, 23, 425, 55, 426, 427, 428, 429, 56, 57, 62, 58, 59, 60, 61, 63, 681, 682, 683, 684, 685, 686, 687, 688, 689, 690, 729, 730, 731, 732, 733, 734, 735, 736, 737] (by decide +kernel) (by decide +kernel)
set_option maxRecDepth 20000 in
theorem gL_law_X5_image : GoodIn wsL_law (wsV RL 108 RX5 yX5_image wsX5_image) := goodIn_app (goodIn_of _ (by decide +kernel)) ggL_law_X5_image
set_option maxRecDepth 20000 in
theorem ggL_law_X6_image : GoodIn wsL_law wsX6_image := goodIn_r _ [607, 87, 91, 89, 92, 199, 608, 94, 609, 198, 610, 530, 611, 200, 612, 201, 93, 258, 259, 260, 5, 261, 196, 613, 614, 615, 691, 692, 693, 694, 695, 696, 697, 698, 699, 700, 701, 702, 703, 704, 705, 706, 707, 708, 709, 710, 711, 712, 713, 714, 715, 716, 717, 718, 719, 720, 721, 722] (by decide +kernel) (by decide +kernel)
set_option maxRecDepth 20000 in
theorem gL_law_X6_image : GoodIn wsL_law (wsV RL 111 RX6 yX6_image wsX6_image) := goodIn_app (goodIn_of _ (by decide +kernel)) ggL_law_X6_image
set_option maxRecDepth 20000 in
theorem ggL_law_X5_restore : GoodIn wsL_law wsX5_restore := goodIn_r _ [619, 37, 35, 25, 620, 24, 220, 422, 423, 424, 23, 425, 55, 426, 427, 428, 429, 56, 57, 62, 58, 59, 60, 61, 63, 681, 682, 683, 684, 685, 686, 687, 688, 689, 690, 729, 730, 731, 732, 733, 734, 735, 736, 737] (by decide +kernel) (by decide +kernel)
set_option maxRecDepth 20000 in
theorem gL_law_X5_restore : GoodIn wsL_law (wsV RL 112 RX5 yX5_restore wsX5_restore) := goodIn_app (goodIn_of _ (by decide +kernel)) ggL_law_X5_restore
set_option maxRecDepth 20000 in
theorem ggL_law_X6_restore : GoodIn wsL_law wsX6_restore := goodIn_r _ [624, 93, 201, 608, 199, 91, 87, 92, 89, 609, 94, 610, 198, 611, 530, 612, 200, 613, 614, 5, 615, 691, 692, 693, 694, 695, 696, 697, 698, 699, 700, 701, 702, 703, 704, 705, 706, 707, 708, 709, 710, 711, 712, 713, 714, 715, 716, 717, 718, 719, 720, 721, 722] (by decide +kernel) (by decide +kernel)
set_option maxRecDepth 20000 in
theorem gL_law_X6_restore : GoodIn wsL_law (wsV RL 115 RX6 yX6_restore wsX6_restore) := goodIn_app (goodIn_of _ (by decide +kernel)) ggL_law_X6_restore
set_option maxRecDepth 20000 in
theorem ggL_law_X5_count : GoodIn wsL_law wsX5_count := goodIn_r _ [628, 24, 620, 220, 20, 171, 521, 16, 99, 35, 36, 629, 630, 631, 19, 632, 51, 633, 634, 635, 636, 637, 638, 639, 640, 641, 642, 23, 643, 58, 644, 246, 247, 248, 56, 578, 579, 580, 581, 57, 681, 682, 683, 684, 685, 686, 687, 688, 689, 690, 729, 730, 731, 732, 733, 734, 735, 736, 737, 725, 726, 727, 728, 723, 724] (by decide +kernel) (by decide +kernel)
set_option maxRecDepth 20000 in
theorem gL_law_X5_count : GoodIn wsL_law (wsV RL 116 RX5 yX5_count wsX5_count) := goodIn_app (goodIn_of _ (by decide +kernel)) ggL_law_X5_count
set_option maxRecDepth 20000 in
theorem ggL_law_X6_count : GoodIn wsL_law wsX6_count := goodIn_r _ [648, 649, 650, 651, 5, 652, 199, 87, 197, 198, 196, 200, 116, 201, 466, 691, 692, 693, 694, 695, 696, 697, 698, 699, 700, 701, 702, 703, 704, 705, 706, 707, 708, 709, 710, 711, 712, 713, 714, 715, 716, 717, 718, 719, 720, 721, 722] (by decide +kernel) (by decide +kernel)
set_option maxRecDepth 20000 in
theorem gL_law_X6_count : GoodIn wsL_law (wsV RL 119 RX6 yX6_count wsX6_count) := goodIn_app (goodIn_of _ (by decide +kernel)) ggL_law_X6_count
set_option maxRecDepth 20000 in
theorem ggL_law_X5_digest : GoodIn wsL_law wsX5_digest := goodIn_r _ [656, 657, 24, 620, 658, 521, 16, 99, 659, 208, 209, 210, 2, 211, 35, 660, 661, 662, 663, 20, 171, 664, 221, 665, 203, 204, 205, 206, 207, 142, 143, 212, 213, 214, 19, 215, 51, 216, 217, 218, 219, 220, 222, 223, 224, 225, 226, 227, 228, 229, 50, 49, 230, 231, 232, 233, 234, 235, 236, 237, 238, 239, 240, 241, 48, 242, 243, 244, 245, 246, 247, 23, 248, 58, 56, 666, 506, 507, 508, 404, 405, 406, 407, 57, 408, 354, 355, 356, 357, 667, 343, 344, 345, 346, 347, 348, 349, 350, 351, 352, 353, 668, 544, 545, 546, 547, 548, 549, 550, 61, 62, 63, 59, 308, 309, 310, 311, 312, 313, 314, 315, 316, 317, 318, 669, 626, 627, 628, 36, 629, 630, 631, 632, 633, 634, 635, 636, 637, 638, 639, 640, 641, 642, 643, 644, 578, 579, 580, 581, 681, 682, 683, 684, 685, 686, 687, 688, 689, 690, 729, 730, 731, 732, 733, 734, 735, 736, 737, 723, 724, 725, 726, 727, 728] (by decide +kernel) (by decide +kernel)
set_option maxRecDepth 20000 in
theorem gL_law_X5_digest : GoodIn wsL_law (wsV RL 120 RX5 yX5_digest wsX5_digest) := goodIn_app (goodIn_of _ (by decide +kernel)) ggL_law_X5_digest
set_option maxRecDepth 20000 in
theorem ggL_law_X6_digest : GoodIn wsL_law wsX6_digest := goodIn_r _ [673, 674, 675, 196, 86, 94, 199, 200, 116, 82, 258, 259, 260, 5, 261, 262, 263, 264, 265, 85, 197, 198, 266, 267, 268, 269, 270, 271, 272, 273, 274, 275, 276, 277, 278, 279, 280, 281, 87, 676, 677, 678, 679, 680, 513, 514, 515, 516, 413, 414, 415, 416, 371, 372, 373, 374, 375, 376, 366, 367, 368, 369, 370, 164, 165, 166, 555, 556, 557, 558, 89, 530, 323, 324, 325, 326, 649, 650, 651, 652, 201, 466, 691, 692, 693, 694, 695, 696, 697, 698, 699, 700, 701, 702, 703, 704, 705, 706, 707, 708, 709, 710, 711, 712, 713, 714, 715, 716, 717, 718, 719, 720, 721, 722] (by decide +kernel) (by decide +kernel)
set_option maxRecDepth 20000 in
theorem gL_law_X6_digest : GoodIn wsL_law (wsV RL 124 RX6 yX6_digest wsX6_digest) := goodIn_app (goodIn_of _ (by decide +kernel)) ggL_law_X6_digest
theorem dL_law_0 : decode cL_law 0 = .ok (.new 7, 3) := by decide +kernel
theorem dL_law_3 : decode cL_law 3 = .ok (.dup, 1) := by decide +kernel
theorem dL_law_4 : decode cL_law 4 = .ok (.invokespecial 9, 3) := by decide +kernel
theorem dL_law_7 : decode cL_law 7 = .ok (.astore_n 1, 1) := by decide +kernel
theorem dL_law_8 : decode cL_law 8 = .ok (.new 10, 3) := by decide +kernel
theorem dL_law_11 : decode cL_law 11 = .ok (.dup, 1) := by decide +kernel
theorem dL_law_12 : decode cL_law 12 = .ok (.invokespecial 12, 3) := by decide +kernel
theorem dL_law_15 : decode cL_law 15 = .ok (.astore_n 2, 1) := by decide +kernel
theorem dL_law_16 : decode cL_law 16 = .ok (.iconst 0, 1) := by decide +kernel
theorem dL_law_17 : decode cL_law 17 = .ok (.istore_n 3, 1) := by decide +kernel
theorem dL_law_18 : decode cL_law 18 = .ok (.iload_n 3, 1) := by decide +kernel
theorem dL_law_19 : decode cL_law 19 = .ok (.aload_n 0, 1) := by decide +kernel
theorem dL_law_20 : decode cL_law 20 = .ok (.arraylength, 1) := by decide +kernel
theorem dL_law_21 : decode cL_law 21 = .ok (.iconst 4, 1) := by decide +kernel
theorem dL_law_22 : decode cL_law 22 = .ok (.isub, 1) := by decide +kernel
theorem dL_law_23 : decode cL_law 23 = .ok (.if_icmp .gt 794, 3) := by decide +kernel
theorem dL_law_26 : decode cL_law 26 = .ok (.aload_n 0, 1) := by decide +kernel
theorem dL_law_27 : decode cL_law 27 = .ok (.iload_n 3, 1) := by decide +kernel
theorem dL_law_28 : decode cL_law 28 = .ok (.iaload, 1) := by decide +kernel
theorem dL_law_29 : decode cL_law 29 = .ok (.bipush 31, 2) := by decide +kernel
theorem dL_law_31 : decode cL_law 31 = .ok (.iand, 1) := by decide +kernel
theorem dL_law_32 : decode cL_law 32 = .ok (.tableswitch 779 0 25 #[120, 173, 186, 199, 212, 245, 268, 291, 304, 347, 380, 413, 436, 459, 502, 545, 568, 591, 604, 637, 660, 673, 716, 729, 742, 765], 120) := by decide +kernel
theorem dL_law_152 : decode cL_law 152 = .ok (.aload_n 1, 1) := by decide +kernel
theorem dL_law_153 : decode cL_law 153 = .ok (.aload_n 0, 1) := by decide +kernel
theorem dL_law_154 : decode cL_law 154 = .ok (.iload_n 3, 1) := by decide +kernel
theorem dL_law_155 : decode cL_law 155 = .ok (.iconst 1, 1) := by decide +kernel
theorem dL_law_156 : decode cL_law 156 = .ok (.iadd, 1) := by decide +kernel
theorem dL_law_157 : decode cL_law 157 = .ok (.iaload, 1) := by decide +kernel
theorem dL_law_158 : decode cL_law 158 = .ok (.i2l, 1) := by decide +kernel
theorem dL_law_159 : decode cL_law 159 = .ok (.bipush 32, 2) := by decide +kernel
theorem dL_law_161 : decode cL_law 161 = .ok (.lshl, 1) := by decide +kernel
theorem dL_law_162 : decode cL_law 162 = .ok (.aload_n 0, 1) := by decide +kernel
theorem dL_law_163 : decode cL_law 163 = .ok (.iload_n 3, 1) := by decide +kernel
theorem dL_law_164 : decode cL_law 164 = .ok (.iconst 2, 1) := by decide +kernel
theorem dL_law_165 : decode cL_law 165 = .ok (.iadd, 1) := by decide +kernel
theorem dL_law_166 : decode cL_law 166 = .ok (.iaload, 1) := by decide +kernel
theorem dL_law_167 : decode cL_law 167 = .ok (.i2l, 1) := by decide +kernel
theorem dL_law_168 : decode cL_law 168 = .ok (.ldc2_w 13, 3) := by decide +kernel
theorem dL_law_171 : decode cL_law 171 = .ok (.land, 1) := by decide +kernel
theorem dL_law_172 : decode cL_law 172 = .ok (.lor, 1) := by decide +kernel
theorem dL_law_173 : decode cL_law 173 = .ok (.invokevirtual 15, 3) := by decide +kernel
theorem dL_law_176 : decode cL_law 176 = .ok (.aload_n 2, 1) := by decide +kernel
theorem dL_law_177 : decode cL_law 177 = .ok (.aload_n 0, 1) := by decide +kernel
theorem dL_law_178 : decode cL_law 178 = .ok (.iload_n 3, 1) := by decide +kernel
theorem dL_law_179 : decode cL_law 179 = .ok (.iconst 1, 1) := by decide +kernel
theorem dL_law_180 : decode cL_law 180 = .ok (.iadd, 1) := by decide +kernel
theorem dL_law_181 : decode cL_law 181 = .ok (.iaload, 1) := by decide +kernel
theorem dL_law_182 : decode cL_law 182 = .ok (.i2l, 1) := by decide +kernel
theorem dL_law_183 : decode cL_law 183 = .ok (.bipush 32, 2) := by decide +kernel
theorem dL_law_185 : decode cL_law 185 = .ok (.lshl, 1) := by decide +kernel
theorem dL_law_186 : decode cL_law 186 = .ok (.aload_n 0, 1) := by decide +kernel
theorem dL_law_187 : decode cL_law 187 = .ok (.iload_n 3, 1) := by decide +kernel
theorem dL_law_188 : decode cL_law 188 = .ok (.iconst 2, 1) := by decide +kernel
theorem dL_law_189 : decode cL_law 189 = .ok (.iadd, 1) := by decide +kernel
theorem dL_law_190 : decode cL_law 190 = .ok (.iaload, 1) := by decide +kernel
theorem dL_law_191 : decode cL_law 191 = .ok (.i2l, 1) := by decide +kernel
theorem dL_law_192 : decode cL_law 192 = .ok (.ldc2_w 13, 3) := by decide +kernel
theorem dL_law_195 : decode cL_law 195 = .ok (.land, 1) := by decide +kernel
theorem dL_law_196 : decode cL_law 196 = .ok (.lor, 1) := by decide +kernel
theorem dL_law_197 : decode cL_law 197 = .ok (.invokevirtual 19, 3) := by decide +kernel
theorem dL_law_200 : decode cL_law 200 = .ok (.if_icmp .eq 611, 3) := by decide +kernel
theorem dL_law_203 : decode cL_law 203 = .ok (.iconst 0, 1) := by decide +kernel
theorem dL_law_204 : decode cL_law 204 = .ok (.ireturn, 1) := by decide +kernel
theorem dL_law_205 : decode cL_law 205 = .ok (.aload_n 1, 1) := by decide +kernel
theorem dL_law_206 : decode cL_law 206 = .ok (.invokevirtual 20, 3) := by decide +kernel
theorem dL_law_209 : decode cL_law 209 = .ok (.aload_n 2, 1) := by decide +kernel
theorem dL_law_210 : decode cL_law 210 = .ok (.invokevirtual 24, 3) := by decide +kernel
theorem dL_law_213 : decode cL_law 213 = .ok (.if_icmp .eq 598, 3) := by decide +kernel
theorem dL_law_216 : decode cL_law 216 = .ok (.iconst 0, 1) := by decide +kernel
theorem dL_law_217 : decode cL_law 217 = .ok (.ireturn, 1) := by decide +kernel
theorem dL_law_218 : decode cL_law 218 = .ok (.aload_n 1, 1) := by decide +kernel
theorem dL_law_219 : decode cL_law 219 = .ok (.invokevirtual 25, 3) := by decide +kernel
theorem dL_law_222 : decode cL_law 222 = .ok (.aload_n 2, 1) := by decide +kernel
theorem dL_law_223 : decode cL_law 223 = .ok (.invokevirtual 28, 3) := by decide +kernel
theorem dL_law_226 : decode cL_law 226 = .ok (.if_icmp .eq 585, 3) := by decide +kernel
theorem dL_law_229 : decode cL_law 229 = .ok (.iconst 0, 1) := by decide +kernel
theorem dL_law_230 : decode cL_law 230 = .ok (.ireturn, 1) := by decide +kernel
theorem dL_law_231 : decode cL_law 231 = .ok (.aload_n 1, 1) := by decide +kernel
theorem dL_law_232 : decode cL_law 232 = .ok (.invokevirtual 29, 3) := by decide +kernel
theorem dL_law_235 : decode cL_law 235 = .ok (.aload_n 2, 1) := by decide +kernel
theorem dL_law_236 : decode cL_law 236 = .ok (.invokevirtual 32, 3) := by decide +kernel
theorem dL_law_239 : decode cL_law 239 = .ok (.if_icmp .eq 572, 3) := by decide +kernel
theorem dL_law_242 : decode cL_law 242 = .ok (.iconst 0, 1) := by decide +kernel
theorem dL_law_243 : decode cL_law 243 = .ok (.ireturn, 1) := by decide +kernel
theorem dL_law_244 : decode cL_law 244 = .ok (.aload_n 1, 1) := by decide +kernel
theorem dL_law_245 : decode cL_law 245 = .ok (.aload_n 0, 1) := by decide +kernel
theorem dL_law_246 : decode cL_law 246 = .ok (.iload_n 3, 1) := by decide +kernel
theorem dL_law_247 : decode cL_law 247 = .ok (.iconst 1, 1) := by decide +kernel
theorem dL_law_248 : decode cL_law 248 = .ok (.iadd, 1) := by decide +kernel
theorem dL_law_249 : decode cL_law 249 = .ok (.iaload, 1) := by decide +kernel
theorem dL_law_250 : decode cL_law 250 = .ok (.aload_n 0, 1) := by decide +kernel
theorem dL_law_251 : decode cL_law 251 = .ok (.iload_n 3, 1) := by decide +kernel
theorem dL_law_252 : decode cL_law 252 = .ok (.iconst 2, 1) := by decide +kernel
theorem dL_law_253 : decode cL_law 253 = .ok (.iadd, 1) := by decide +kernel
theorem dL_law_254 : decode cL_law 254 = .ok (.iaload, 1) := by decide +kernel
theorem dL_law_255 : decode cL_law 255 = .ok (.invokevirtual 33, 3) := by decide +kernel
theorem dL_law_258 : decode cL_law 258 = .ok (.aload_n 2, 1) := by decide +kernel
theorem dL_law_259 : decode cL_law 259 = .ok (.aload_n 0, 1) := by decide +kernel
theorem dL_law_260 : decode cL_law 260 = .ok (.iload_n 3, 1) := by decide +kernel
theorem dL_law_261 : decode cL_law 261 = .ok (.iconst 1, 1) := by decide +kernel
theorem dL_law_262 : decode cL_law 262 = .ok (.iadd, 1) := by decide +kernel
theorem dL_law_263 : decode cL_law 263 = .ok (.iaload, 1) := by decide +kernel
theorem dL_law_264 : decode cL_law 264 = .ok (.aload_n 0, 1) := by decide +kernel
theorem dL_law_265 : decode cL_law 265 = .ok (.iload_n 3, 1) := by decide +kernel
theorem dL_law_266 : decode cL_law 266 = .ok (.iconst 2, 1) := by decide +kernel
theorem dL_law_267 : decode cL_law 267 = .ok (.iadd, 1) := by decide +kernel
theorem dL_law_268 : decode cL_law 268 = .ok (.iaload, 1) := by decide +kernel
theorem dL_law_269 : decode cL_law 269 = .ok (.invokevirtual 37, 3) := by decide +kernel
theorem dL_law_272 : decode cL_law 272 = .ok (.if_icmp .eq 539, 3) := by decide +kernel
theorem dL_law_275 : decode cL_law 275 = .ok (.iconst 0, 1) := by decide +kernel
theorem dL_law_276 : decode cL_law 276 = .ok (.ireturn, 1) := by decide +kernel
theorem dL_law_277 : decode cL_law 277 = .ok (.aload_n 1, 1) := by decide +kernel
theorem dL_law_278 : decode cL_law 278 = .ok (.aload_n 0, 1) := by decide +kernel
theorem dL_law_279 : decode cL_law 279 = .ok (.iload_n 3, 1) := by decide +kernel
theorem dL_law_280 : decode cL_law 280 = .ok (.iconst 1, 1) := by decide +kernel
theorem dL_law_281 : decode cL_law 281 = .ok (.iadd, 1) := by decide +kernel
theorem dL_law_282 : decode cL_law 282 = .ok (.iaload, 1) := by decide +kernel
theorem dL_law_283 : decode cL_law 283 = .ok (.invokevirtual 38, 3) := by decide +kernel
theorem dL_law_286 : decode cL_law 286 = .ok (.aload_n 2, 1) := by decide +kernel
theorem dL_law_287 : decode cL_law 287 = .ok (.aload_n 0, 1) := by decide +kernel
theorem dL_law_288 : decode cL_law 288 = .ok (.iload_n 3, 1) := by decide +kernel
theorem dL_law_289 : decode cL_law 289 = .ok (.iconst 1, 1) := by decide +kernel
theorem dL_law_290 : decode cL_law 290 = .ok (.iadd, 1) := by decide +kernel
theorem dL_law_291 : decode cL_law 291 = .ok (.iaload, 1) := by decide +kernel
theorem dL_law_292 : decode cL_law 292 = .ok (.invokevirtual 42, 3) := by decide +kernel
theorem dL_law_295 : decode cL_law 295 = .ok (.if_icmp .eq 516, 3) := by decide +kernel
theorem dL_law_298 : decode cL_law 298 = .ok (.iconst 0, 1) := by decide +kernel
theorem dL_law_299 : decode cL_law 299 = .ok (.ireturn, 1) := by decide +kernel
theorem dL_law_300 : decode cL_law 300 = .ok (.aload_n 1, 1) := by decide +kernel
theorem dL_law_301 : decode cL_law 301 = .ok (.aload_n 0, 1) := by decide +kernel
theorem dL_law_302 : decode cL_law 302 = .ok (.iload_n 3, 1) := by decide +kernel
theorem dL_law_303 : decode cL_law 303 = .ok (.iconst 1, 1) := by decide +kernel
theorem dL_law_304 : decode cL_law 304 = .ok (.iadd, 1) := by decide +kernel
theorem dL_law_305 : decode cL_law 305 = .ok (.iaload, 1) := by decide +kernel
theorem dL_law_306 : decode cL_law 306 = .ok (.invokevirtual 43, 3) := by decide +kernel
theorem dL_law_309 : decode cL_law 309 = .ok (.aload_n 2, 1) := by decide +kernel
theorem dL_law_310 : decode cL_law 310 = .ok (.aload_n 0, 1) := by decide +kernel
theorem dL_law_311 : decode cL_law 311 = .ok (.iload_n 3, 1) := by decide +kernel
theorem dL_law_312 : decode cL_law 312 = .ok (.iconst 1, 1) := by decide +kernel
theorem dL_law_313 : decode cL_law 313 = .ok (.iadd, 1) := by decide +kernel
theorem dL_law_314 : decode cL_law 314 = .ok (.iaload, 1) := by decide +kernel
theorem dL_law_315 : decode cL_law 315 = .ok (.invokevirtual 46, 3) := by decide +kernel
theorem dL_law_318 : decode cL_law 318 = .ok (.if_icmp .eq 493, 3) := by decide +kernel
theorem dL_law_321 : decode cL_law 321 = .ok (.iconst 0, 1) := by decide +kernel
theorem dL_law_322 : decode cL_law 322 = .ok (.ireturn, 1) := by decide +kernel
theorem dL_law_323 : decode cL_law 323 = .ok (.aload_n 1, 1) := by decide +kernel
theorem dL_law_324 : decode cL_law 324 = .ok (.invokevirtual 47, 3) := by decide +kernel
theorem dL_law_327 : decode cL_law 327 = .ok (.aload_n 2, 1) := by decide +kernel
theorem dL_law_328 : decode cL_law 328 = .ok (.invokevirtual 50, 3) := by decide +kernel
theorem dL_law_331 : decode cL_law 331 = .ok (.if_icmp .eq 480, 3) := by decide +kernel
theorem dL_law_334 : decode cL_law 334 = .ok (.iconst 0, 1) := by decide +kernel
theorem dL_law_335 : decode cL_law 335 = .ok (.ireturn, 1) := by decide +kernel
theorem dL_law_336 : decode cL_law 336 = .ok (.aload_n 1, 1) := by decide +kernel
theorem dL_law_337 : decode cL_law 337 = .ok (.aload_n 0, 1) := by decide +kernel
theorem dL_law_338 : decode cL_law 338 = .ok (.iload_n 3, 1) := by decide +kernel
theorem dL_law_339 : decode cL_law 339 = .ok (.iconst 1, 1) := by decide +kernel
theorem dL_law_340 : decode cL_law 340 = .ok (.iadd, 1) := by decide +kernel
theorem dL_law_341 : decode cL_law 341 = .ok (.iaload, 1) := by decide +kernel
theorem dL_law_342 : decode cL_law 342 = .ok (.aload_n 0, 1) := by decide +kernel
theorem dL_law_343 : decode cL_law 343 = .ok (.iload_n 3, 1) := by decide +kernel
theorem dL_law_344 : decode cL_law 344 = .ok (.iconst 2, 1) := by decide +kernel
theorem dL_law_345 : decode cL_law 345 = .ok (.iadd, 1) := by decide +kernel
theorem dL_law_346 : decode cL_law 346 = .ok (.iaload, 1) := by decide +kernel
theorem dL_law_347 : decode cL_law 347 = .ok (.aload_n 0, 1) := by decide +kernel
theorem dL_law_348 : decode cL_law 348 = .ok (.iload_n 3, 1) := by decide +kernel
theorem dL_law_349 : decode cL_law 349 = .ok (.iconst 3, 1) := by decide +kernel
theorem dL_law_350 : decode cL_law 350 = .ok (.iadd, 1) := by decide +kernel
theorem dL_law_351 : decode cL_law 351 = .ok (.iaload, 1) := by decide +kernel
theorem dL_law_352 : decode cL_law 352 = .ok (.invokevirtual 51, 3) := by decide +kernel
theorem dL_law_355 : decode cL_law 355 = .ok (.aload_n 2, 1) := by decide +kernel
theorem dL_law_356 : decode cL_law 356 = .ok (.aload_n 0, 1) := by decide +kernel
theorem dL_law_357 : decode cL_law 357 = .ok (.iload_n 3, 1) := by decide +kernel
theorem dL_law_358 : decode cL_law 358 = .ok (.iconst 1, 1) := by decide +kernel
theorem dL_law_359 : decode cL_law 359 = .ok (.iadd, 1) := by decide +kernel
theorem dL_law_360 : decode cL_law 360 = .ok (.iaload, 1) := by decide +kernel
theorem dL_law_361 : decode cL_law 361 = .ok (.aload_n 0, 1) := by decide +kernel
theorem dL_law_362 : decode cL_law 362 = .ok (.iload_n 3, 1) := by decide +kernel
theorem dL_law_363 : decode cL_law 363 = .ok (.iconst 2, 1) := by decide +kernel
theorem dL_law_364 : decode cL_law 364 = .ok (.iadd, 1) := by decide +kernel
theorem dL_law_365 : decode cL_law 365 = .ok (.iaload, 1) := by decide +kernel
theorem dL_law_366 : decode cL_law 366 = .ok (.aload_n 0, 1) := by decide +kernel
theorem dL_law_367 : decode cL_law 367 = .ok (.iload_n 3, 1) := by decide +kernel
theorem dL_law_368 : decode cL_law 368 = .ok (.iconst 3, 1) := by decide +kernel
theorem dL_law_369 : decode cL_law 369 = .ok (.iadd, 1) := by decide +kernel
theorem dL_law_370 : decode cL_law 370 = .ok (.iaload, 1) := by decide +kernel
theorem dL_law_371 : decode cL_law 371 = .ok (.invokevirtual 55, 3) := by decide +kernel
theorem dL_law_374 : decode cL_law 374 = .ok (.if_icmp .eq 437, 3) := by decide +kernel
theorem dL_law_377 : decode cL_law 377 = .ok (.iconst 0, 1) := by decide +kernel
theorem dL_law_378 : decode cL_law 378 = .ok (.ireturn, 1) := by decide +kernel
theorem dL_law_379 : decode cL_law 379 = .ok (.aload_n 1, 1) := by decide +kernel
theorem dL_law_380 : decode cL_law 380 = .ok (.aload_n 0, 1) := by decide +kernel
theorem dL_law_381 : decode cL_law 381 = .ok (.iload_n 3, 1) := by decide +kernel
theorem dL_law_382 : decode cL_law 382 = .ok (.iconst 1, 1) := by decide +kernel
theorem dL_law_383 : decode cL_law 383 = .ok (.iadd, 1) := by decide +kernel
theorem dL_law_384 : decode cL_law 384 = .ok (.iaload, 1) := by decide +kernel
theorem dL_law_385 : decode cL_law 385 = .ok (.aload_n 0, 1) := by decide +kernel
theorem dL_law_386 : decode cL_law 386 = .ok (.iload_n 3, 1) := by decide +kernel
theorem dL_law_387 : decode cL_law 387 = .ok (.iconst 2, 1) := by decide +kernel
theorem dL_law_388 : decode cL_law 388 = .ok (.iadd, 1) := by decide +kernel
theorem dL_law_389 : decode cL_law 389 = .ok (.iaload, 1) := by decide +kernel
theorem dL_law_390 : decode cL_law 390 = .ok (.invokevirtual 56, 3) := by decide +kernel
theorem dL_law_393 : decode cL_law 393 = .ok (.aload_n 2, 1) := by decide +kernel
theorem dL_law_394 : decode cL_law 394 = .ok (.aload_n 0, 1) := by decide +kernel
theorem dL_law_395 : decode cL_law 395 = .ok (.iload_n 3, 1) := by decide +kernel
theorem dL_law_396 : decode cL_law 396 = .ok (.iconst 1, 1) := by decide +kernel
theorem dL_law_397 : decode cL_law 397 = .ok (.iadd, 1) := by decide +kernel
theorem dL_law_398 : decode cL_law 398 = .ok (.iaload, 1) := by decide +kernel
theorem dL_law_399 : decode cL_law 399 = .ok (.aload_n 0, 1) := by decide +kernel
theorem dL_law_400 : decode cL_law 400 = .ok (.iload_n 3, 1) := by decide +kernel
theorem dL_law_401 : decode cL_law 401 = .ok (.iconst 2, 1) := by decide +kernel
theorem dL_law_402 : decode cL_law 402 = .ok (.iadd, 1) := by decide +kernel
theorem dL_law_403 : decode cL_law 403 = .ok (.iaload, 1) := by decide +kernel
theorem dL_law_404 : decode cL_law 404 = .ok (.invokevirtual 59, 3) := by decide +kernel
theorem dL_law_407 : decode cL_law 407 = .ok (.if_icmp .eq 404, 3) := by decide +kernel
theorem dL_law_410 : decode cL_law 410 = .ok (.iconst 0, 1) := by decide +kernel
theorem dL_law_411 : decode cL_law 411 = .ok (.ireturn, 1) := by decide +kernel
theorem dL_law_412 : decode cL_law 412 = .ok (.aload_n 1, 1) := by decide +kernel
theorem dL_law_413 : decode cL_law 413 = .ok (.aload_n 0, 1) := by decide +kernel
theorem dL_law_414 : decode cL_law 414 = .ok (.iload_n 3, 1) := by decide +kernel
theorem dL_law_415 : decode cL_law 415 = .ok (.iconst 1, 1) := by decide +kernel
theorem dL_law_416 : decode cL_law 416 = .ok (.iadd, 1) := by decide +kernel
theorem dL_law_417 : decode cL_law 417 = .ok (.iaload, 1) := by decide +kernel
theorem dL_law_418 : decode cL_law 418 = .ok (.aload_n 0, 1) := by decide +kernel
theorem dL_law_419 : decode cL_law 419 = .ok (.iload_n 3, 1) := by decide +kernel
theorem dL_law_420 : decode cL_law 420 = .ok (.iconst 2, 1) := by decide +kernel
theorem dL_law_421 : decode cL_law 421 = .ok (.iadd, 1) := by decide +kernel
theorem dL_law_422 : decode cL_law 422 = .ok (.iaload, 1) := by decide +kernel
theorem dL_law_423 : decode cL_law 423 = .ok (.invokevirtual 60, 3) := by decide +kernel
theorem dL_law_426 : decode cL_law 426 = .ok (.aload_n 2, 1) := by decide +kernel
theorem dL_law_427 : decode cL_law 427 = .ok (.aload_n 0, 1) := by decide +kernel
theorem dL_law_428 : decode cL_law 428 = .ok (.iload_n 3, 1) := by decide +kernel
theorem dL_law_429 : decode cL_law 429 = .ok (.iconst 1, 1) := by decide +kernel
theorem dL_law_430 : decode cL_law 430 = .ok (.iadd, 1) := by decide +kernel
theorem dL_law_431 : decode cL_law 431 = .ok (.iaload, 1) := by decide +kernel
theorem dL_law_432 : decode cL_law 432 = .ok (.aload_n 0, 1) := by decide +kernel
theorem dL_law_433 : decode cL_law 433 = .ok (.iload_n 3, 1) := by decide +kernel
theorem dL_law_434 : decode cL_law 434 = .ok (.iconst 2, 1) := by decide +kernel
theorem dL_law_435 : decode cL_law 435 = .ok (.iadd, 1) := by decide +kernel
theorem dL_law_436 : decode cL_law 436 = .ok (.iaload, 1) := by decide +kernel
theorem dL_law_437 : decode cL_law 437 = .ok (.invokevirtual 63, 3) := by decide +kernel
theorem dL_law_440 : decode cL_law 440 = .ok (.if_icmp .eq 371, 3) := by decide +kernel
theorem dL_law_443 : decode cL_law 443 = .ok (.iconst 0, 1) := by decide +kernel
theorem dL_law_444 : decode cL_law 444 = .ok (.ireturn, 1) := by decide +kernel
theorem dL_law_445 : decode cL_law 445 = .ok (.aload_n 1, 1) := by decide +kernel
theorem dL_law_446 : decode cL_law 446 = .ok (.aload_n 0, 1) := by decide +kernel
theorem dL_law_447 : decode cL_law 447 = .ok (.iload_n 3, 1) := by decide +kernel
theorem dL_law_448 : decode cL_law 448 = .ok (.iconst 1, 1) := by decide +kernel
theorem dL_law_449 : decode cL_law 449 = .ok (.iadd, 1) := by decide +kernel
theorem dL_law_450 : decode cL_law 450 = .ok (.iaload, 1) := by decide +kernel
theorem dL_law_451 : decode cL_law 451 = .ok (.invokevirtual 64, 3) := by decide +kernel
theorem dL_law_454 : decode cL_law 454 = .ok (.aload_n 2, 1) := by decide +kernel
theorem dL_law_455 : decode cL_law 455 = .ok (.aload_n 0, 1) := by decide +kernel
theorem dL_law_456 : decode cL_law 456 = .ok (.iload_n 3, 1) := by decide +kernel
theorem dL_law_457 : decode cL_law 457 = .ok (.iconst 1, 1) := by decide +kernel
theorem dL_law_458 : decode cL_law 458 = .ok (.iadd, 1) := by decide +kernel
theorem dL_law_459 : decode cL_law 459 = .ok (.iaload, 1) := by decide +kernel
theorem dL_law_460 : decode cL_law 460 = .ok (.invokevirtual 67, 3) := by decide +kernel
theorem dL_law_463 : decode cL_law 463 = .ok (.if_icmp .eq 348, 3) := by decide +kernel
theorem dL_law_466 : decode cL_law 466 = .ok (.iconst 0, 1) := by decide +kernel
theorem dL_law_467 : decode cL_law 467 = .ok (.ireturn, 1) := by decide +kernel
theorem dL_law_468 : decode cL_law 468 = .ok (.aload_n 1, 1) := by decide +kernel
theorem dL_law_469 : decode cL_law 469 = .ok (.aload_n 0, 1) := by decide +kernel
theorem dL_law_470 : decode cL_law 470 = .ok (.iload_n 3, 1) := by decide +kernel
theorem dL_law_471 : decode cL_law 471 = .ok (.iconst 1, 1) := by decide +kernel
theorem dL_law_472 : decode cL_law 472 = .ok (.iadd, 1) := by decide +kernel
theorem dL_law_473 : decode cL_law 473 = .ok (.iaload, 1) := by decide +kernel
theorem dL_law_474 : decode cL_law 474 = .ok (.invokevirtual 68, 3) := by decide +kernel
theorem dL_law_477 : decode cL_law 477 = .ok (.aload_n 2, 1) := by decide +kernel
theorem dL_law_478 : decode cL_law 478 = .ok (.aload_n 0, 1) := by decide +kernel
theorem dL_law_479 : decode cL_law 479 = .ok (.iload_n 3, 1) := by decide +kernel
theorem dL_law_480 : decode cL_law 480 = .ok (.iconst 1, 1) := by decide +kernel
theorem dL_law_481 : decode cL_law 481 = .ok (.iadd, 1) := by decide +kernel
theorem dL_law_482 : decode cL_law 482 = .ok (.iaload, 1) := by decide +kernel
theorem dL_law_483 : decode cL_law 483 = .ok (.invokevirtual 71, 3) := by decide +kernel
theorem dL_law_486 : decode cL_law 486 = .ok (.if_icmp .eq 325, 3) := by decide +kernel
theorem dL_law_489 : decode cL_law 489 = .ok (.iconst 0, 1) := by decide +kernel
theorem dL_law_490 : decode cL_law 490 = .ok (.ireturn, 1) := by decide +kernel
theorem dL_law_491 : decode cL_law 491 = .ok (.aload_n 1, 1) := by decide +kernel
theorem dL_law_492 : decode cL_law 492 = .ok (.aload_n 0, 1) := by decide +kernel
theorem dL_law_493 : decode cL_law 493 = .ok (.iload_n 3, 1) := by decide +kernel
theorem dL_law_494 : decode cL_law 494 = .ok (.iconst 1, 1) := by decide +kernel
theorem dL_law_495 : decode cL_law 495 = .ok (.iadd, 1) := by decide +kernel
theorem dL_law_496 : decode cL_law 496 = .ok (.iaload, 1) := by decide +kernel
theorem dL_law_497 : decode cL_law 497 = .ok (.aload_n 0, 1) := by decide +kernel
theorem dL_law_498 : decode cL_law 498 = .ok (.iload_n 3, 1) := by decide +kernel
theorem dL_law_499 : decode cL_law 499 = .ok (.iconst 2, 1) := by decide +kernel
theorem dL_law_500 : decode cL_law 500 = .ok (.iadd, 1) := by decide +kernel
theorem dL_law_501 : decode cL_law 501 = .ok (.iaload, 1) := by decide +kernel
theorem dL_law_502 : decode cL_law 502 = .ok (.aload_n 0, 1) := by decide +kernel
theorem dL_law_503 : decode cL_law 503 = .ok (.iload_n 3, 1) := by decide +kernel
theorem dL_law_504 : decode cL_law 504 = .ok (.iconst 3, 1) := by decide +kernel
theorem dL_law_505 : decode cL_law 505 = .ok (.iadd, 1) := by decide +kernel
theorem dL_law_506 : decode cL_law 506 = .ok (.iaload, 1) := by decide +kernel
theorem dL_law_507 : decode cL_law 507 = .ok (.invokevirtual 72, 3) := by decide +kernel
theorem dL_law_510 : decode cL_law 510 = .ok (.aload_n 2, 1) := by decide +kernel
theorem dL_law_511 : decode cL_law 511 = .ok (.aload_n 0, 1) := by decide +kernel
theorem dL_law_512 : decode cL_law 512 = .ok (.iload_n 3, 1) := by decide +kernel
theorem dL_law_513 : decode cL_law 513 = .ok (.iconst 1, 1) := by decide +kernel
theorem dL_law_514 : decode cL_law 514 = .ok (.iadd, 1) := by decide +kernel
theorem dL_law_515 : decode cL_law 515 = .ok (.iaload, 1) := by decide +kernel
theorem dL_law_516 : decode cL_law 516 = .ok (.aload_n 0, 1) := by decide +kernel
theorem dL_law_517 : decode cL_law 517 = .ok (.iload_n 3, 1) := by decide +kernel
theorem dL_law_518 : decode cL_law 518 = .ok (.iconst 2, 1) := by decide +kernel
theorem dL_law_519 : decode cL_law 519 = .ok (.iadd, 1) := by decide +kernel
theorem dL_law_520 : decode cL_law 520 = .ok (.iaload, 1) := by decide +kernel
theorem dL_law_521 : decode cL_law 521 = .ok (.aload_n 0, 1) := by decide +kernel
theorem dL_law_522 : decode cL_law 522 = .ok (.iload_n 3, 1) := by decide +kernel
theorem dL_law_523 : decode cL_law 523 = .ok (.iconst 3, 1) := by decide +kernel
theorem dL_law_524 : decode cL_law 524 = .ok (.iadd, 1) := by decide +kernel
theorem dL_law_525 : decode cL_law 525 = .ok (.iaload, 1) := by decide +kernel
theorem dL_law_526 : decode cL_law 526 = .ok (.invokevirtual 75, 3) := by decide +kernel
theorem dL_law_529 : decode cL_law 529 = .ok (.if_icmp .eq 282, 3) := by decide +kernel
theorem dL_law_532 : decode cL_law 532 = .ok (.iconst 0, 1) := by decide +kernel
theorem dL_law_533 : decode cL_law 533 = .ok (.ireturn, 1) := by decide +kernel
theorem dL_law_534 : decode cL_law 534 = .ok (.aload_n 1, 1) := by decide +kernel
theorem dL_law_535 : decode cL_law 535 = .ok (.aload_n 0, 1) := by decide +kernel
theorem dL_law_536 : decode cL_law 536 = .ok (.iload_n 3, 1) := by decide +kernel
theorem dL_law_537 : decode cL_law 537 = .ok (.iconst 1, 1) := by decide +kernel
theorem dL_law_538 : decode cL_law 538 = .ok (.iadd, 1) := by decide +kernel
theorem dL_law_539 : decode cL_law 539 = .ok (.iaload, 1) := by decide +kernel
theorem dL_law_540 : decode cL_law 540 = .ok (.aload_n 0, 1) := by decide +kernel
theorem dL_law_541 : decode cL_law 541 = .ok (.iload_n 3, 1) := by decide +kernel
theorem dL_law_542 : decode cL_law 542 = .ok (.iconst 2, 1) := by decide +kernel
theorem dL_law_543 : decode cL_law 543 = .ok (.iadd, 1) := by decide +kernel
theorem dL_law_544 : decode cL_law 544 = .ok (.iaload, 1) := by decide +kernel
theorem dL_law_545 : decode cL_law 545 = .ok (.aload_n 0, 1) := by decide +kernel
theorem dL_law_546 : decode cL_law 546 = .ok (.iload_n 3, 1) := by decide +kernel
theorem dL_law_547 : decode cL_law 547 = .ok (.iconst 3, 1) := by decide +kernel
theorem dL_law_548 : decode cL_law 548 = .ok (.iadd, 1) := by decide +kernel
theorem dL_law_549 : decode cL_law 549 = .ok (.iaload, 1) := by decide +kernel
theorem dL_law_550 : decode cL_law 550 = .ok (.invokevirtual 76, 3) := by decide +kernel
theorem dL_law_553 : decode cL_law 553 = .ok (.aload_n 2, 1) := by decide +kernel
theorem dL_law_554 : decode cL_law 554 = .ok (.aload_n 0, 1) := by decide +kernel
theorem dL_law_555 : decode cL_law 555 = .ok (.iload_n 3, 1) := by decide +kernel
theorem dL_law_556 : decode cL_law 556 = .ok (.iconst 1, 1) := by decide +kernel
theorem dL_law_557 : decode cL_law 557 = .ok (.iadd, 1) := by decide +kernel
theorem dL_law_558 : decode cL_law 558 = .ok (.iaload, 1) := by decide +kernel
theorem dL_law_559 : decode cL_law 559 = .ok (.aload_n 0, 1) := by decide +kernel
theorem dL_law_560 : decode cL_law 560 = .ok (.iload_n 3, 1) := by decide +kernel
theorem dL_law_561 : decode cL_law 561 = .ok (.iconst 2, 1) := by decide +kernel
theorem dL_law_562 : decode cL_law 562 = .ok (.iadd, 1) := by decide +kernel
theorem dL_law_563 : decode cL_law 563 = .ok (.iaload, 1) := by decide +kernel
theorem dL_law_564 : decode cL_law 564 = .ok (.aload_n 0, 1) := by decide +kernel
theorem dL_law_565 : decode cL_law 565 = .ok (.iload_n 3, 1) := by decide +kernel
theorem dL_law_566 : decode cL_law 566 = .ok (.iconst 3, 1) := by decide +kernel
theorem dL_law_567 : decode cL_law 567 = .ok (.iadd, 1) := by decide +kernel
theorem dL_law_568 : decode cL_law 568 = .ok (.iaload, 1) := by decide +kernel
theorem dL_law_569 : decode cL_law 569 = .ok (.invokevirtual 79, 3) := by decide +kernel
theorem dL_law_572 : decode cL_law 572 = .ok (.if_icmp .eq 239, 3) := by decide +kernel
theorem dL_law_575 : decode cL_law 575 = .ok (.iconst 0, 1) := by decide +kernel
theorem dL_law_576 : decode cL_law 576 = .ok (.ireturn, 1) := by decide +kernel
theorem dL_law_577 : decode cL_law 577 = .ok (.aload_n 1, 1) := by decide +kernel
theorem dL_law_578 : decode cL_law 578 = .ok (.aload_n 0, 1) := by decide +kernel
theorem dL_law_579 : decode cL_law 579 = .ok (.iload_n 3, 1) := by decide +kernel
theorem dL_law_580 : decode cL_law 580 = .ok (.iconst 1, 1) := by decide +kernel
theorem dL_law_581 : decode cL_law 581 = .ok (.iadd, 1) := by decide +kernel
theorem dL_law_582 : decode cL_law 582 = .ok (.iaload, 1) := by decide +kernel
theorem dL_law_583 : decode cL_law 583 = .ok (.invokevirtual 80, 3) := by decide +kernel
theorem dL_law_586 : decode cL_law 586 = .ok (.aload_n 2, 1) := by decide +kernel
theorem dL_law_587 : decode cL_law 587 = .ok (.aload_n 0, 1) := by decide +kernel
theorem dL_law_588 : decode cL_law 588 = .ok (.iload_n 3, 1) := by decide +kernel
theorem dL_law_589 : decode cL_law 589 = .ok (.iconst 1, 1) := by decide +kernel
theorem dL_law_590 : decode cL_law 590 = .ok (.iadd, 1) := by decide +kernel
theorem dL_law_591 : decode cL_law 591 = .ok (.iaload, 1) := by decide +kernel
theorem dL_law_592 : decode cL_law 592 = .ok (.invokevirtual 83, 3) := by decide +kernel
theorem dL_law_595 : decode cL_law 595 = .ok (.if_icmp .eq 216, 3) := by decide +kernel
theorem dL_law_598 : decode cL_law 598 = .ok (.iconst 0, 1) := by decide +kernel
theorem dL_law_599 : decode cL_law 599 = .ok (.ireturn, 1) := by decide +kernel
theorem dL_law_600 : decode cL_law 600 = .ok (.aload_n 1, 1) := by decide +kernel
theorem dL_law_601 : decode cL_law 601 = .ok (.aload_n 0, 1) := by decide +kernel
theorem dL_law_602 : decode cL_law 602 = .ok (.iload_n 3, 1) := by decide +kernel
theorem dL_law_603 : decode cL_law 603 = .ok (.iconst 1, 1) := by decide +kernel
theorem dL_law_604 : decode cL_law 604 = .ok (.iadd, 1) := by decide +kernel
theorem dL_law_605 : decode cL_law 605 = .ok (.iaload, 1) := by decide +kernel
theorem dL_law_606 : decode cL_law 606 = .ok (.invokevirtual 84, 3) := by decide +kernel
theorem dL_law_609 : decode cL_law 609 = .ok (.aload_n 2, 1) := by decide +kernel
theorem dL_law_610 : decode cL_law 610 = .ok (.aload_n 0, 1) := by decide +kernel
theorem dL_law_611 : decode cL_law 611 = .ok (.iload_n 3, 1) := by decide +kernel
theorem dL_law_612 : decode cL_law 612 = .ok (.iconst 1, 1) := by decide +kernel
theorem dL_law_613 : decode cL_law 613 = .ok (.iadd, 1) := by decide +kernel
theorem dL_law_614 : decode cL_law 614 = .ok (.iaload, 1) := by decide +kernel
theorem dL_law_615 : decode cL_law 615 = .ok (.invokevirtual 87, 3) := by decide +kernel
theorem dL_law_618 : decode cL_law 618 = .ok (.if_icmp .eq 193, 3) := by decide +kernel
theorem dL_law_621 : decode cL_law 621 = .ok (.iconst 0, 1) := by decide +kernel
theorem dL_law_622 : decode cL_law 622 = .ok (.ireturn, 1) := by decide +kernel
theorem dL_law_623 : decode cL_law 623 = .ok (.aload_n 1, 1) := by decide +kernel
theorem dL_law_624 : decode cL_law 624 = .ok (.invokevirtual 88, 3) := by decide +kernel
theorem dL_law_627 : decode cL_law 627 = .ok (.aload_n 2, 1) := by decide +kernel
theorem dL_law_628 : decode cL_law 628 = .ok (.invokevirtual 91, 3) := by decide +kernel
theorem dL_law_631 : decode cL_law 631 = .ok (.if_icmp .eq 180, 3) := by decide +kernel
theorem dL_law_634 : decode cL_law 634 = .ok (.iconst 0, 1) := by decide +kernel
theorem dL_law_635 : decode cL_law 635 = .ok (.ireturn, 1) := by decide +kernel
theorem dL_law_636 : decode cL_law 636 = .ok (.aload_n 1, 1) := by decide +kernel
theorem dL_law_637 : decode cL_law 637 = .ok (.aload_n 0, 1) := by decide +kernel
theorem dL_law_638 : decode cL_law 638 = .ok (.iload_n 3, 1) := by decide +kernel
theorem dL_law_639 : decode cL_law 639 = .ok (.iconst 1, 1) := by decide +kernel
theorem dL_law_640 : decode cL_law 640 = .ok (.iadd, 1) := by decide +kernel
theorem dL_law_641 : decode cL_law 641 = .ok (.iaload, 1) := by decide +kernel
theorem dL_law_642 : decode cL_law 642 = .ok (.aload_n 0, 1) := by decide +kernel
theorem dL_law_643 : decode cL_law 643 = .ok (.iload_n 3, 1) := by decide +kernel
theorem dL_law_644 : decode cL_law 644 = .ok (.iconst 2, 1) := by decide +kernel
theorem dL_law_645 : decode cL_law 645 = .ok (.iadd, 1) := by decide +kernel
theorem dL_law_646 : decode cL_law 646 = .ok (.iaload, 1) := by decide +kernel
theorem dL_law_647 : decode cL_law 647 = .ok (.invokevirtual 92, 3) := by decide +kernel
theorem dL_law_650 : decode cL_law 650 = .ok (.aload_n 2, 1) := by decide +kernel
theorem dL_law_651 : decode cL_law 651 = .ok (.aload_n 0, 1) := by decide +kernel
theorem dL_law_652 : decode cL_law 652 = .ok (.iload_n 3, 1) := by decide +kernel
theorem dL_law_653 : decode cL_law 653 = .ok (.iconst 1, 1) := by decide +kernel
theorem dL_law_654 : decode cL_law 654 = .ok (.iadd, 1) := by decide +kernel
theorem dL_law_655 : decode cL_law 655 = .ok (.iaload, 1) := by decide +kernel
theorem dL_law_656 : decode cL_law 656 = .ok (.aload_n 0, 1) := by decide +kernel
theorem dL_law_657 : decode cL_law 657 = .ok (.iload_n 3, 1) := by decide +kernel
theorem dL_law_658 : decode cL_law 658 = .ok (.iconst 2, 1) := by decide +kernel
theorem dL_law_659 : decode cL_law 659 = .ok (.iadd, 1) := by decide +kernel
theorem dL_law_660 : decode cL_law 660 = .ok (.iaload, 1) := by decide +kernel
theorem dL_law_661 : decode cL_law 661 = .ok (.invokevirtual 95, 3) := by decide +kernel
theorem dL_law_664 : decode cL_law 664 = .ok (.if_icmp .eq 147, 3) := by decide +kernel
theorem dL_law_667 : decode cL_law 667 = .ok (.iconst 0, 1) := by decide +kernel
theorem dL_law_668 : decode cL_law 668 = .ok (.ireturn, 1) := by decide +kernel
theorem dL_law_669 : decode cL_law 669 = .ok (.aload_n 1, 1) := by decide +kernel
theorem dL_law_670 : decode cL_law 670 = .ok (.aload_n 0, 1) := by decide +kernel
theorem dL_law_671 : decode cL_law 671 = .ok (.iload_n 3, 1) := by decide +kernel
theorem dL_law_672 : decode cL_law 672 = .ok (.iconst 1, 1) := by decide +kernel
theorem dL_law_673 : decode cL_law 673 = .ok (.iadd, 1) := by decide +kernel
theorem dL_law_674 : decode cL_law 674 = .ok (.iaload, 1) := by decide +kernel
theorem dL_law_675 : decode cL_law 675 = .ok (.invokevirtual 96, 3) := by decide +kernel
theorem dL_law_678 : decode cL_law 678 = .ok (.aload_n 2, 1) := by decide +kernel
theorem dL_law_679 : decode cL_law 679 = .ok (.aload_n 0, 1) := by decide +kernel
theorem dL_law_680 : decode cL_law 680 = .ok (.iload_n 3, 1) := by decide +kernel
theorem dL_law_681 : decode cL_law 681 = .ok (.iconst 1, 1) := by decide +kernel
theorem dL_law_682 : decode cL_law 682 = .ok (.iadd, 1) := by decide +kernel
theorem dL_law_683 : decode cL_law 683 = .ok (.iaload, 1) := by decide +kernel
theorem dL_law_684 : decode cL_law 684 = .ok (.invokevirtual 99, 3) := by decide +kernel
theorem dL_law_687 : decode cL_law 687 = .ok (.if_icmp .eq 124, 3) := by decide +kernel
theorem dL_law_690 : decode cL_law 690 = .ok (.iconst 0, 1) := by decide +kernel
theorem dL_law_691 : decode cL_law 691 = .ok (.ireturn, 1) := by decide +kernel
theorem dL_law_692 : decode cL_law 692 = .ok (.aload_n 1, 1) := by decide +kernel
theorem dL_law_693 : decode cL_law 693 = .ok (.invokevirtual 100, 3) := by decide +kernel
theorem dL_law_696 : decode cL_law 696 = .ok (.aload_n 2, 1) := by decide +kernel
theorem dL_law_697 : decode cL_law 697 = .ok (.invokevirtual 103, 3) := by decide +kernel
theorem dL_law_700 : decode cL_law 700 = .ok (.if_icmp .eq 111, 3) := by decide +kernel
theorem dL_law_703 : decode cL_law 703 = .ok (.iconst 0, 1) := by decide +kernel
theorem dL_law_704 : decode cL_law 704 = .ok (.ireturn, 1) := by decide +kernel
theorem dL_law_705 : decode cL_law 705 = .ok (.aload_n 1, 1) := by decide +kernel
theorem dL_law_706 : decode cL_law 706 = .ok (.aload_n 0, 1) := by decide +kernel
theorem dL_law_707 : decode cL_law 707 = .ok (.iload_n 3, 1) := by decide +kernel
theorem dL_law_708 : decode cL_law 708 = .ok (.iconst 1, 1) := by decide +kernel
theorem dL_law_709 : decode cL_law 709 = .ok (.iadd, 1) := by decide +kernel
theorem dL_law_710 : decode cL_law 710 = .ok (.iaload, 1) := by decide +kernel
theorem dL_law_711 : decode cL_law 711 = .ok (.aload_n 0, 1) := by decide +kernel
theorem dL_law_712 : decode cL_law 712 = .ok (.iload_n 3, 1) := by decide +kernel
theorem dL_law_713 : decode cL_law 713 = .ok (.iconst 2, 1) := by decide +kernel
theorem dL_law_714 : decode cL_law 714 = .ok (.iadd, 1) := by decide +kernel
theorem dL_law_715 : decode cL_law 715 = .ok (.iaload, 1) := by decide +kernel
theorem dL_law_716 : decode cL_law 716 = .ok (.aload_n 0, 1) := by decide +kernel
theorem dL_law_717 : decode cL_law 717 = .ok (.iload_n 3, 1) := by decide +kernel
theorem dL_law_718 : decode cL_law 718 = .ok (.iconst 3, 1) := by decide +kernel
theorem dL_law_719 : decode cL_law 719 = .ok (.iadd, 1) := by decide +kernel
theorem dL_law_720 : decode cL_law 720 = .ok (.iaload, 1) := by decide +kernel
theorem dL_law_721 : decode cL_law 721 = .ok (.invokevirtual 104, 3) := by decide +kernel
theorem dL_law_724 : decode cL_law 724 = .ok (.aload_n 2, 1) := by decide +kernel
theorem dL_law_725 : decode cL_law 725 = .ok (.aload_n 0, 1) := by decide +kernel
theorem dL_law_726 : decode cL_law 726 = .ok (.iload_n 3, 1) := by decide +kernel
theorem dL_law_727 : decode cL_law 727 = .ok (.iconst 1, 1) := by decide +kernel
theorem dL_law_728 : decode cL_law 728 = .ok (.iadd, 1) := by decide +kernel
theorem dL_law_729 : decode cL_law 729 = .ok (.iaload, 1) := by decide +kernel
theorem dL_law_730 : decode cL_law 730 = .ok (.aload_n 0, 1) := by decide +kernel
theorem dL_law_731 : decode cL_law 731 = .ok (.iload_n 3, 1) := by decide +kernel
theorem dL_law_732 : decode cL_law 732 = .ok (.iconst 2, 1) := by decide +kernel
theorem dL_law_733 : decode cL_law 733 = .ok (.iadd, 1) := by decide +kernel
theorem dL_law_734 : decode cL_law 734 = .ok (.iaload, 1) := by decide +kernel
theorem dL_law_735 : decode cL_law 735 = .ok (.aload_n 0, 1) := by decide +kernel
theorem dL_law_736 : decode cL_law 736 = .ok (.iload_n 3, 1) := by decide +kernel
theorem dL_law_737 : decode cL_law 737 = .ok (.iconst 3, 1) := by decide +kernel
theorem dL_law_738 : decode cL_law 738 = .ok (.iadd, 1) := by decide +kernel
theorem dL_law_739 : decode cL_law 739 = .ok (.iaload, 1) := by decide +kernel
theorem dL_law_740 : decode cL_law 740 = .ok (.invokevirtual 107, 3) := by decide +kernel
theorem dL_law_743 : decode cL_law 743 = .ok (.if_icmp .eq 68, 3) := by decide +kernel
theorem dL_law_746 : decode cL_law 746 = .ok (.iconst 0, 1) := by decide +kernel
theorem dL_law_747 : decode cL_law 747 = .ok (.ireturn, 1) := by decide +kernel
theorem dL_law_748 : decode cL_law 748 = .ok (.aload_n 1, 1) := by decide +kernel
theorem dL_law_749 : decode cL_law 749 = .ok (.invokevirtual 108, 3) := by decide +kernel
theorem dL_law_752 : decode cL_law 752 = .ok (.aload_n 2, 1) := by decide +kernel
theorem dL_law_753 : decode cL_law 753 = .ok (.invokevirtual 111, 3) := by decide +kernel
theorem dL_law_756 : decode cL_law 756 = .ok (.if_icmp .eq 55, 3) := by decide +kernel
theorem dL_law_759 : decode cL_law 759 = .ok (.iconst 0, 1) := by decide +kernel
theorem dL_law_760 : decode cL_law 760 = .ok (.ireturn, 1) := by decide +kernel
theorem dL_law_761 : decode cL_law 761 = .ok (.aload_n 1, 1) := by decide +kernel
theorem dL_law_762 : decode cL_law 762 = .ok (.invokevirtual 112, 3) := by decide +kernel
theorem dL_law_765 : decode cL_law 765 = .ok (.aload_n 2, 1) := by decide +kernel
theorem dL_law_766 : decode cL_law 766 = .ok (.invokevirtual 115, 3) := by decide +kernel
theorem dL_law_769 : decode cL_law 769 = .ok (.if_icmp .eq 42, 3) := by decide +kernel
theorem dL_law_772 : decode cL_law 772 = .ok (.iconst 0, 1) := by decide +kernel
theorem dL_law_773 : decode cL_law 773 = .ok (.ireturn, 1) := by decide +kernel
theorem dL_law_774 : decode cL_law 774 = .ok (.aload_n 1, 1) := by decide +kernel
theorem dL_law_775 : decode cL_law 775 = .ok (.aload_n 0, 1) := by decide +kernel
theorem dL_law_776 : decode cL_law 776 = .ok (.iload_n 3, 1) := by decide +kernel
theorem dL_law_777 : decode cL_law 777 = .ok (.iconst 1, 1) := by decide +kernel
theorem dL_law_778 : decode cL_law 778 = .ok (.iadd, 1) := by decide +kernel
theorem dL_law_779 : decode cL_law 779 = .ok (.iaload, 1) := by decide +kernel
theorem dL_law_780 : decode cL_law 780 = .ok (.invokevirtual 116, 3) := by decide +kernel
theorem dL_law_783 : decode cL_law 783 = .ok (.aload_n 2, 1) := by decide +kernel
theorem dL_law_784 : decode cL_law 784 = .ok (.aload_n 0, 1) := by decide +kernel
theorem dL_law_785 : decode cL_law 785 = .ok (.iload_n 3, 1) := by decide +kernel
theorem dL_law_786 : decode cL_law 786 = .ok (.iconst 1, 1) := by decide +kernel
theorem dL_law_787 : decode cL_law 787 = .ok (.iadd, 1) := by decide +kernel
theorem dL_law_788 : decode cL_law 788 = .ok (.iaload, 1) := by decide +kernel
theorem dL_law_789 : decode cL_law 789 = .ok (.invokevirtual 119, 3) := by decide +kernel
theorem dL_law_792 : decode cL_law 792 = .ok (.if_icmp .eq 19, 3) := by decide +kernel
theorem dL_law_795 : decode cL_law 795 = .ok (.iconst 0, 1) := by decide +kernel
theorem dL_law_796 : decode cL_law 796 = .ok (.ireturn, 1) := by decide +kernel
theorem dL_law_797 : decode cL_law 797 = .ok (.aload_n 1, 1) := by decide +kernel
theorem dL_law_798 : decode cL_law 798 = .ok (.invokevirtual 120, 3) := by decide +kernel
theorem dL_law_801 : decode cL_law 801 = .ok (.aload_n 2, 1) := by decide +kernel
theorem dL_law_802 : decode cL_law 802 = .ok (.invokevirtual 124, 3) := by decide +kernel
theorem dL_law_805 : decode cL_law 805 = .ok (.lcmp, 1) := by decide +kernel
theorem dL_law_806 : decode cL_law 806 = .ok (.ifCond .eq 5, 3) := by decide +kernel
theorem dL_law_809 : decode cL_law 809 = .ok (.iconst 0, 1) := by decide +kernel
theorem dL_law_810 : decode cL_law 810 = .ok (.ireturn, 1) := by decide +kernel
theorem dL_law_811 : decode cL_law 811 = .ok (.iinc 3 4, 3) := by decide +kernel
theorem dL_law_814 : decode cL_law 814 = .ok (.goto (-796), 3) := by decide +kernel
theorem dL_law_817 : decode cL_law 817 = .ok (.iconst 1, 1) := by decide +kernel
theorem dL_law_818 : decode cL_law 818 = .ok (.ireturn, 1) := by decide +kernel
