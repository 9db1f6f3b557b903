theorem mx_lay_cls {c N a : Nat} (h50 : c < 50) (h : ∀ q ∈ mx_layL, q.1 = c → q.2 = N) (ha : (mx_lay a).1 = c) : (mx_lay a).2 = N := by
  have hl := mx_lay_lt (a := a) (by omega)
  unfold mx_lay at ha ⊢
  rw [List.getD_eq_getElem?_getD, List.getElem?_eq_getElem hl] at ha ⊢
  simp only [Option.getD_some] at ha ⊢
  exact h _ (List.getElem_mem hl) ha
def wc_0 : List Cond := [Cond.selects "OffOnTheSecond" yX10_error yX10_error, Cond.selects "OffOnTheSecond$Reader" yX3_takes yX3_takes, Cond.selects "OffOnTheSecond$Reader" yX3_takesDigit yX3_takesDigit, Cond.selects "OffOnTheSecond$Reader" yX3_takesStart yX3_takesStart, Cond.selects "OffOnTheSecond$Reader" yX3_takesNext yX3_takesNext, Cond.selects "OffOnTheSecond$Reader" yX3_closes yX3_closes, Cond.selects "OffOnTheSecond$Reader" yX3_settle yX3_settle, Cond.selects "OffOnTheSecond$Reader" yX3_isWhole yX3_isWhole, Cond.selects "OffOnTheSecond$Show" yX7_draw yX7_draw, Cond.selects "OffOnTheSecond$Sets" yX5_addUp yX5_addUp, Cond.selects "OffOnTheSecond$Sets" yX5_findsBest yX5_findsBest, Cond.selects "OffOnTheSecond$Rows" yX4_askLikings yX4_askLikings, Cond.selects "OffOnTheSecond$Rows" yX4_bestNext yX4_bestNext, Cond.selects "OffOnTheSecond$Rows" yX4_withNext yX4_withNext, Cond.selects "OffOnTheSecond$Rows" yX4_choose yX4_choose, Cond.selects "OffOnTheSecond$Odds" yX2_clearWays yX2_clearWays, Cond.selects "OffOnTheSecond$Odds" yX2_spread yX2_spread, Cond.selects "OffOnTheSecond$Odds" yX2_waysWithin yX2_waysWithin, Cond.selects "OffOnTheSecond$Odds" yX2_reduce yX2_reduce, Cond.selects "OffOnTheSecond" yX10_sheetAt yX10_sheetAt, Cond.selects "OffOnTheSecond$Voices" yX9_speak yX9_speak, Cond.selects "OffOnTheSecond$Voices" yX9_answerOf yX9_answerOf, Cond.selects "OffOnTheSecond$Voices" yX9_cutUp yX9_cutUp, Cond.selects "OffOnTheSecondModel" yX11_error yX11_error, Cond.selects "OffOnTheSecondModel" yX11_whole yX11_whole]
set_option maxRecDepth 20000 in
theorem wk_0 : ∀ w ∈ wc_0, w ∈ lw_tbl := fun w h => List.mem_of_mem_drop (i := 0) (List.mem_of_mem_take (i := 25) ((show wc_0 = (lw_tbl.drop 0).take 25 from rfl) ▸ h))
def wc_25 : List Cond := [Cond.selects "OffOnTheSecondModel" yX11_both yX11_both, Cond.selects "OffOnTheSecondModel" yX11_compared yX11_compared, Cond.selects "OffOnTheSecondModel" yX11_sum yX11_sum, Cond.selects "OffOnTheSecondModel" yX11_product yX11_product, Cond.selects "OffOnTheSecondModel" yX11_one yX11_one, Cond.selects "OffOnTheSecondModel" yX11_look yX11_look, Cond.selects "OffOnTheSecondModel" yX11_isName yX11_isName, Cond.selects "OffOnTheSecondModel" yX11_step1 yX11_step1, Cond.selects "OffOnTheSecondModel" yX11_opens yX11_opens, Cond.selects "OffOnTheSecondModel" yX11_hasText yX11_hasText, Cond.selects "OffOnTheSecondModel" yX11_lays1 yX11_lays1, Cond.selects "OffOnTheSecondModel" yX11_isItem yX11_isItem, Cond.selects "OffOnTheSecondModel" yX11_leastOf yX11_leastOf, Cond.selects "OffOnTheSecondModel" yX11_its yX11_its, Cond.selects "OffOnTheSecondModel" yX11_mostOf yX11_mostOf, Cond.selects "OffOnTheSecondModel" yX11_change1 yX11_change1, Cond.selects "OffOnTheSecondModel" yX11_isLeft yX11_isLeft, Cond.selects "OffOnTheSecondModel" yX11_worthTold yX11_worthTold, Cond.selects "OffOnTheSecondModel" yX11_worked yX11_worked, Cond.selects "OffOnTheSecondModel" yX11_likedTold yX11_likedTold, Cond.selects "OffOnTheSecondModel" yX11_onNow yX11_onNow, Cond.selects "OffOnTheSecondModel" yX11_itemAt yX11_itemAt, Cond.selects "OffOnTheSecondModel" yX11_isDone yX11_isDone, Cond.selects "OffOnTheSecondModel" yX11_leftSet yX11_leftSet, Cond.selects "OffOnTheSecondModel" yX11_draw yX11_draw]
set_option maxRecDepth 20000 in
theorem wk_25 : ∀ w ∈ wc_25, w ∈ lw_tbl := fun w h => List.mem_of_mem_drop (i := 25) (List.mem_of_mem_take (i := 25) ((show wc_25 = (lw_tbl.drop 25).take 25 from rfl) ▸ h))
def wc_50 : List Cond := [Cond.selects "OffOnTheSecondModel" yX11_thereIs yX11_thereIs, Cond.selects "OffOnTheSecondModel" yX11_fitsSet yX11_fitsSet, Cond.selects "OffOnTheSecondModel" yX11_leastAll yX11_leastAll, Cond.selects "OffOnTheSecondModel" yX11_mostAll yX11_mostAll, Cond.selects "OffOnTheSecondModel" yX11_noPlan yX11_noPlan, Cond.selects "OffOnTheSecondModel" yX11_aheadOf yX11_aheadOf, Cond.selects "OffOnTheSecondModel" yX11_worthAll yX11_worthAll, Cond.selects "OffOnTheSecondModel" yX11_goesRow yX11_goesRow, Cond.selects "OffOnTheSecondModel" yX11_isLive yX11_isLive, Cond.selects "OffOnTheSecondModel" yX11_moreBy yX11_moreBy, Cond.selects "OffOnTheSecondModel" yX11_lacks yX11_lacks, Cond.selects "OffOnTheSecondModel" yX11_truthAll yX11_truthAll, Cond.selects "OffOnTheSecondModel" yX11_kindNow yX11_kindNow, Cond.selects "OffOnTheSecondModel" yX11_readsAs yX11_readsAs, Cond.selects "OffOnTheSecondModel" yX11_starts yX11_starts, Cond.selects "OffOnTheSecondModel" yX11_adlibsAs yX11_adlibsAs, Cond.selects "OffOnTheSecondModel" yX11_mNow yX11_mNow, Cond.selects "OffOnTheSecondModel" yX11_windsAs yX11_windsAs, Cond.selects "OffOnTheSecondModel" yX11_partsAs yX11_partsAs, (Jvm.Cond.initialized "OffOnTheSecondLaw"), Cond.initialized "OffOnTheSecond", Cond.initialized "OffOnTheSecond$Show", Cond.initialized "OffOnTheSecond$Items", Cond.initialized "OffOnTheSecond$Line", Cond.initialized "java/lang/Math"]
set_option maxRecDepth 20000 in
theorem wk_50 : ∀ w ∈ wc_50, w ∈ lw_tbl := fun w h => List.mem_of_mem_drop (i := 50) (List.mem_of_mem_take (i := 25) ((show wc_50 = (lw_tbl.drop 50).take 25 from rfl) ▸ h))
def wc_75 : List Cond := [Cond.initialized "OffOnTheSecond$Text", Cond.initialized "OffOnTheSecond$Reader", Cond.initialized "OffOnTheSecond$Sets", Cond.initialized "OffOnTheSecond$Rows", Cond.initialized "OffOnTheSecond$Odds", Cond.initialized "OffOnTheSecond$Voices", Cond.initialized "OffOnTheSecond$Sheet", Cond.initialized "OffOnTheSecondModel", Cond.initialized "java/lang/Integer", Cond.initialized "java/lang/System", Cond.classLink "OffOnTheSecondLaw" 7 "OffOnTheSecond", Cond.instantiable "OffOnTheSecond" 10, Cond.methodLink "OffOnTheSecondLaw" 9 yX10_init, Cond.instanceMethod yX10_init, Cond.code yX10_init prog_1_method_1_code 2 none, Cond.methodLink "OffOnTheSecond" 1 Lib.objectInit, Cond.instanceMethod Lib.objectInit, Cond.code Lib.objectInit ⟨#[0xb1]⟩ 1 none, Cond.classLink "OffOnTheSecond" 7 "OffOnTheSecond$Show", Cond.instantiable "OffOnTheSecond$Show" 9, (Jvm.Cond.methodLinkNest "OffOnTheSecond" (9 : Nat) ({ cls := "OffOnTheSecond$Show", name := "<init>", desc := "()V" } : Jvm.MethodName) "OffOnTheSecond"), Cond.instanceMethod yX7_init, Cond.code yX7_init prog_9_method_1_code 1 none, Cond.methodLink "OffOnTheSecond$Show" 3 Lib.objectInit, Cond.classLink "OffOnTheSecond$Show" 9 "OffOnTheSecond$Items"]
set_option maxRecDepth 20000 in
theorem wk_75 : ∀ w ∈ wc_75, w ∈ lw_tbl := fun w h => List.mem_of_mem_drop (i := 75) (List.mem_of_mem_take (i := 25) ((show wc_75 = (lw_tbl.drop 75).take 25 from rfl) ▸ h))
def wc_100 : List Cond := [Cond.instantiable "OffOnTheSecond$Items" 6, (Jvm.Cond.methodLinkNest "OffOnTheSecond$Show" (11 : Nat) ({ cls := "OffOnTheSecond$Items", name := "<init>", desc := "()V" } : Jvm.MethodName) "OffOnTheSecond"), Cond.instanceMethod yX0_init, Cond.code yX0_init prog_2_method_1_code 1 none, Cond.methodLink "OffOnTheSecond$Items" 3 Lib.objectInit, Cond.classLink "OffOnTheSecond$Items" 15 "OffOnTheSecond$Line", Cond.instantiable "OffOnTheSecond$Line" 2, Cond.methodLink "OffOnTheSecond$Items" 17 yX1_init, Cond.instanceMethod yX1_init, Cond.code yX1_init prog_3_method_1_code 2 none, Cond.methodLink "OffOnTheSecond$Line" 1 Lib.objectInit, Cond.methodLink "OffOnTheSecond$Line" 13 Lib.Math.max.name, Cond.static Lib.Math.max.name, Cond.code Lib.Math.max.name Lib.Math.max.code 2 (some .int), Cond.fieldLink "OffOnTheSecond$Line" 19 "OffOnTheSecond$Line" "cells" "[I", Cond.fieldLink "OffOnTheSecond" 307 "OffOnTheSecond$Line" "cells" "[I", Cond.fieldLink "OffOnTheSecond$Line" 7 "OffOnTheSecond$Line" "size" "I", Cond.fieldLink "OffOnTheSecond$Rows" 37 "OffOnTheSecond$Line" "size" "I", Cond.fieldLink "OffOnTheSecond$Reader" 37 "OffOnTheSecond$Line" "size" "I", Cond.fieldLink "OffOnTheSecond$Text" 34 "OffOnTheSecond$Line" "size" "I", Cond.fieldLink "OffOnTheSecond" 155 "OffOnTheSecond$Line" "size" "I", Cond.fieldLink "OffOnTheSecond$Items" 98 "OffOnTheSecond$Line" "size" "I", (Jvm.Cond.laysFinal "OffOnTheSecond$Line" "OffOnTheSecond$Line" "cells" "[I"), (Jvm.Cond.soleField "OffOnTheSecond$Line" "cells"), (Jvm.Cond.lays "OffOnTheSecond$Line" "OffOnTheSecond$Line" "size" "I")]
set_option maxRecDepth 20000 in
theorem wk_100 : ∀ w ∈ wc_100, w ∈ lw_tbl := fun w h => List.mem_of_mem_drop (i := 100) (List.mem_of_mem_take (i := 25) ((show wc_100 = (lw_tbl.drop 100).take 25 from rfl) ▸ h))
def wc_125 : List Cond := [(Jvm.Cond.soleField "OffOnTheSecond$Line" "size"), (Jvm.Cond.superclass "OffOnTheSecond$Line" "java/lang/Object"), Cond.arrayClass .int, Cond.fieldLink "OffOnTheSecond$Items" 9 "OffOnTheSecond$Items" "size" "I", Cond.fieldLink "OffOnTheSecond$Sets" 49 "OffOnTheSecond$Items" "size" "I", Cond.fieldLink "OffOnTheSecond" 89 "OffOnTheSecond$Items" "size" "I", Cond.fieldLink "OffOnTheSecond$Odds" 35 "OffOnTheSecond$Items" "size" "I", Cond.fieldLink "OffOnTheSecond$Rows" 67 "OffOnTheSecond$Items" "size" "I", Cond.fieldLink "OffOnTheSecond$Items" 20 "OffOnTheSecond$Items" "kinds" "LOffOnTheSecond$Line;", Cond.fieldLink "OffOnTheSecond$Voices" 37 "OffOnTheSecond$Items" "kinds" "LOffOnTheSecond$Line;", Cond.fieldLink "OffOnTheSecond" 101 "OffOnTheSecond$Items" "kinds" "LOffOnTheSecond$Line;", Cond.fieldLink "OffOnTheSecond$Rows" 77 "OffOnTheSecond$Items" "kinds" "LOffOnTheSecond$Line;", Cond.fieldLink "OffOnTheSecond$Show" 126 "OffOnTheSecond$Items" "kinds" "LOffOnTheSecond$Line;", Cond.fieldLink "OffOnTheSecond$Items" 24 "OffOnTheSecond$Items" "ms" "LOffOnTheSecond$Line;", Cond.fieldLink "OffOnTheSecond$Voices" 46 "OffOnTheSecond$Items" "ms" "LOffOnTheSecond$Line;", Cond.fieldLink "OffOnTheSecond$Odds" 59 "OffOnTheSecond$Items" "ms" "LOffOnTheSecond$Line;", Cond.fieldLink "OffOnTheSecond" 107 "OffOnTheSecond$Items" "ms" "LOffOnTheSecond$Line;", Cond.fieldLink "OffOnTheSecond$Items" 27 "OffOnTheSecond$Items" "trues" "LOffOnTheSecond$Line;", Cond.fieldLink "OffOnTheSecond$Odds" 49 "OffOnTheSecond$Items" "trues" "LOffOnTheSecond$Line;", Cond.fieldLink "OffOnTheSecond$Sets" 77 "OffOnTheSecond$Items" "trues" "LOffOnTheSecond$Line;", Cond.fieldLink "OffOnTheSecond" 110 "OffOnTheSecond$Items" "trues" "LOffOnTheSecond$Line;", Cond.fieldLink "OffOnTheSecond$Show" 129 "OffOnTheSecond$Items" "trues" "LOffOnTheSecond$Line;", Cond.fieldLink "OffOnTheSecond$Items" 30 "OffOnTheSecond$Items" "fates" "LOffOnTheSecond$Line;", Cond.fieldLink "OffOnTheSecond" 122 "OffOnTheSecond$Items" "fates" "LOffOnTheSecond$Line;", Cond.fieldLink "OffOnTheSecond$Show" 63 "OffOnTheSecond$Items" "fates" "LOffOnTheSecond$Line;"]
set_option maxRecDepth 20000 in
theorem wk_125 : ∀ w ∈ wc_125, w ∈ lw_tbl := fun w h => List.mem_of_mem_drop (i := 125) (List.mem_of_mem_take (i := 25) ((show wc_125 = (lw_tbl.drop 125).take 25 from rfl) ▸ h))
def wc_150 : List Cond := [Cond.fieldLink "OffOnTheSecond$Items" 33 "OffOnTheSecond$Items" "order" "LOffOnTheSecond$Line;", Cond.fieldLink "OffOnTheSecond$Show" 96 "OffOnTheSecond$Items" "order" "LOffOnTheSecond$Line;", (Jvm.Cond.lays "OffOnTheSecond$Items" "OffOnTheSecond$Items" "size" "I"), (Jvm.Cond.soleField "OffOnTheSecond$Items" "size"), (Jvm.Cond.laysFinal "OffOnTheSecond$Items" "OffOnTheSecond$Items" "kinds" "LOffOnTheSecond$Line;"), (Jvm.Cond.soleField "OffOnTheSecond$Items" "kinds"), (Jvm.Cond.laysFinal "OffOnTheSecond$Items" "OffOnTheSecond$Items" "ms" "LOffOnTheSecond$Line;"), (Jvm.Cond.soleField "OffOnTheSecond$Items" "ms"), (Jvm.Cond.laysFinal "OffOnTheSecond$Items" "OffOnTheSecond$Items" "trues" "LOffOnTheSecond$Line;"), (Jvm.Cond.soleField "OffOnTheSecond$Items" "trues"), (Jvm.Cond.laysFinal "OffOnTheSecond$Items" "OffOnTheSecond$Items" "fates" "LOffOnTheSecond$Line;"), (Jvm.Cond.soleField "OffOnTheSecond$Items" "fates"), (Jvm.Cond.laysFinal "OffOnTheSecond$Items" "OffOnTheSecond$Items" "order" "LOffOnTheSecond$Line;"), (Jvm.Cond.soleField "OffOnTheSecond$Items" "order"), (Jvm.Cond.superclass "OffOnTheSecond$Items" "java/lang/Object"), Cond.classLink "OffOnTheSecond$Show" 31 "OffOnTheSecond$Line", Cond.methodLink "OffOnTheSecond$Show" 33 yX1_init, Cond.classLink "OffOnTheSecond$Show" 43 "OffOnTheSecond$Text", Cond.instantiable "OffOnTheSecond$Text" 3, (Jvm.Cond.methodLinkNest "OffOnTheSecond$Show" (45 : Nat) ({ cls := "OffOnTheSecond$Text", name := "<init>", desc := "()V" } : Jvm.MethodName) "OffOnTheSecond"), Cond.instanceMethod yX8_init, Cond.code yX8_init prog_10_method_1_code 1 none, Cond.methodLink "OffOnTheSecond$Text" 3 Lib.objectInit, Cond.classLink "OffOnTheSecond$Text" 15 "OffOnTheSecond$Line", Cond.methodLink "OffOnTheSecond$Text" 17 yX1_init]
set_option maxRecDepth 20000 in
theorem wk_150 : ∀ w ∈ wc_150, w ∈ lw_tbl := fun w h => List.mem_of_mem_drop (i := 150) (List.mem_of_mem_take (i := 25) ((show wc_150 = (lw_tbl.drop 150).take 25 from rfl) ▸ h))
def wc_175 : List Cond := [Cond.fieldLink "OffOnTheSecond$Text" 9 "OffOnTheSecond$Text" "stands" "Z", Cond.fieldLink "OffOnTheSecond$Show" 115 "OffOnTheSecond$Text" "stands" "Z", Cond.fieldLink "OffOnTheSecond$Text" 20 "OffOnTheSecond$Text" "code" "LOffOnTheSecond$Line;", Cond.fieldLink "OffOnTheSecond$Text" 24 "OffOnTheSecond$Text" "stack" "LOffOnTheSecond$Line;", (Jvm.Cond.lays "OffOnTheSecond$Text" "OffOnTheSecond$Text" "stands" "Z"), (Jvm.Cond.soleField "OffOnTheSecond$Text" "stands"), (Jvm.Cond.laysFinal "OffOnTheSecond$Text" "OffOnTheSecond$Text" "code" "LOffOnTheSecond$Line;"), (Jvm.Cond.soleField "OffOnTheSecond$Text" "code"), (Jvm.Cond.laysFinal "OffOnTheSecond$Text" "OffOnTheSecond$Text" "stack" "LOffOnTheSecond$Line;"), (Jvm.Cond.soleField "OffOnTheSecond$Text" "stack"), (Jvm.Cond.superclass "OffOnTheSecond$Text" "java/lang/Object"), Cond.fieldLink "OffOnTheSecond$Show" 12 "OffOnTheSecond$Show" "items" "LOffOnTheSecond$Items;", Cond.fieldLink "OffOnTheSecond$Sets" 37 "OffOnTheSecond$Show" "items" "LOffOnTheSecond$Items;", Cond.fieldLink "OffOnTheSecond$Odds" 22 "OffOnTheSecond$Show" "items" "LOffOnTheSecond$Items;", Cond.fieldLink "OffOnTheSecond" 85 "OffOnTheSecond$Show" "items" "LOffOnTheSecond$Items;", Cond.fieldLink "OffOnTheSecond$Rows" 61 "OffOnTheSecond$Show" "items" "LOffOnTheSecond$Items;", Cond.fieldLink "OffOnTheSecond$Show" 18 "OffOnTheSecond$Show" "end" "I", Cond.fieldLink "OffOnTheSecond" 330 "OffOnTheSecond$Show" "end" "I", Cond.fieldLink "OffOnTheSecond$Show" 22 "OffOnTheSecond$Show" "now" "I", Cond.fieldLink "OffOnTheSecond" 194 "OffOnTheSecond$Show" "now" "I", Cond.fieldLink "OffOnTheSecond$Show" 25 "OffOnTheSecond$Show" "tune" "I", Cond.fieldLink "OffOnTheSecond" 224 "OffOnTheSecond$Show" "tune" "I", Cond.fieldLink "OffOnTheSecond$Show" 28 "OffOnTheSecond$Show" "z" "I", Cond.fieldLink "OffOnTheSecond" 209 "OffOnTheSecond$Show" "z" "I", Cond.fieldLink "OffOnTheSecond$Show" 36 "OffOnTheSecond$Show" "tape" "LOffOnTheSecond$Line;"]
set_option maxRecDepth 20000 in
theorem wk_175 : ∀ w ∈ wc_175, w ∈ lw_tbl := fun w h => List.mem_of_mem_drop (i := 175) (List.mem_of_mem_take (i := 25) ((show wc_175 = (lw_tbl.drop 175).take 25 from rfl) ▸ h))
def wc_200 : List Cond := [Cond.fieldLink "OffOnTheSecond" 145 "OffOnTheSecond$Show" "tape" "LOffOnTheSecond$Line;", Cond.fieldLink "OffOnTheSecond$Show" 40 "OffOnTheSecond$Show" "waiting" "LOffOnTheSecond$Line;", Cond.fieldLink "OffOnTheSecond" 324 "OffOnTheSecond$Show" "waiting" "LOffOnTheSecond$Line;", Cond.fieldLink "OffOnTheSecond$Show" 46 "OffOnTheSecond$Show" "worth" "LOffOnTheSecond$Text;", Cond.fieldLink "OffOnTheSecond$Show" 50 "OffOnTheSecond$Show" "liked" "LOffOnTheSecond$Text;", (Jvm.Cond.laysFinal "OffOnTheSecond$Show" "OffOnTheSecond$Show" "items" "LOffOnTheSecond$Items;"), (Jvm.Cond.soleField "OffOnTheSecond$Show" "items"), (Jvm.Cond.lays "OffOnTheSecond$Show" "OffOnTheSecond$Show" "end" "I"), (Jvm.Cond.soleField "OffOnTheSecond$Show" "end"), (Jvm.Cond.lays "OffOnTheSecond$Show" "OffOnTheSecond$Show" "now" "I"), (Jvm.Cond.soleField "OffOnTheSecond$Show" "now"), (Jvm.Cond.lays "OffOnTheSecond$Show" "OffOnTheSecond$Show" "tune" "I"), (Jvm.Cond.soleField "OffOnTheSecond$Show" "tune"), (Jvm.Cond.lays "OffOnTheSecond$Show" "OffOnTheSecond$Show" "z" "I"), (Jvm.Cond.soleField "OffOnTheSecond$Show" "z"), (Jvm.Cond.laysFinal "OffOnTheSecond$Show" "OffOnTheSecond$Show" "tape" "LOffOnTheSecond$Line;"), (Jvm.Cond.soleField "OffOnTheSecond$Show" "tape"), (Jvm.Cond.laysFinal "OffOnTheSecond$Show" "OffOnTheSecond$Show" "waiting" "LOffOnTheSecond$Line;"), (Jvm.Cond.soleField "OffOnTheSecond$Show" "waiting"), (Jvm.Cond.laysFinal "OffOnTheSecond$Show" "OffOnTheSecond$Show" "worth" "LOffOnTheSecond$Text;"), (Jvm.Cond.soleField "OffOnTheSecond$Show" "worth"), (Jvm.Cond.laysFinal "OffOnTheSecond$Show" "OffOnTheSecond$Show" "liked" "LOffOnTheSecond$Text;"), (Jvm.Cond.soleField "OffOnTheSecond$Show" "liked"), (Jvm.Cond.superclass "OffOnTheSecond$Show" "java/lang/Object"), Cond.classLink "OffOnTheSecond" 23 "OffOnTheSecond$Line"]
set_option maxRecDepth 20000 in
theorem wk_200 : ∀ w ∈ wc_200, w ∈ lw_tbl := fun w h => List.mem_of_mem_drop (i := 200) (List.mem_of_mem_take (i := 25) ((show wc_200 = (lw_tbl.drop 200).take 25 from rfl) ▸ h))
def wc_225 : List Cond := [Cond.methodLink "OffOnTheSecond" 25 yX1_init, Cond.classLink "OffOnTheSecond" 32 "OffOnTheSecond$Reader", Cond.instantiable "OffOnTheSecond$Reader" 5, (Jvm.Cond.methodLinkNest "OffOnTheSecond" (34 : Nat) ({ cls := "OffOnTheSecond$Reader", name := "<init>", desc := "()V" } : Jvm.MethodName) "OffOnTheSecond"), Cond.instanceMethod yX3_init, Cond.code yX3_init prog_5_method_1_code 1 none, Cond.methodLink "OffOnTheSecond$Reader" 3 Lib.objectInit, Cond.classLink "OffOnTheSecond$Reader" 9 "OffOnTheSecond$Line", Cond.methodLink "OffOnTheSecond$Reader" 11 yX1_init, Cond.fieldLink "OffOnTheSecond$Reader" 14 "OffOnTheSecond$Reader" "code" "LOffOnTheSecond$Line;", Cond.fieldLink "OffOnTheSecond" 170 "OffOnTheSecond$Reader" "code" "LOffOnTheSecond$Line;", Cond.fieldLink "OffOnTheSecond$Reader" 20 "OffOnTheSecond$Reader" "pending" "LOffOnTheSecond$Line;", Cond.fieldLink "OffOnTheSecond$Reader" 23 "OffOnTheSecond$Reader" "wantsQ" "Z", Cond.fieldLink "OffOnTheSecond$Reader" 27 "OffOnTheSecond$Reader" "open" "I", Cond.fieldLink "OffOnTheSecond$Reader" 31 "OffOnTheSecond$Reader" "digits" "I", (Jvm.Cond.laysFinal "OffOnTheSecond$Reader" "OffOnTheSecond$Reader" "code" "LOffOnTheSecond$Line;"), (Jvm.Cond.soleField "OffOnTheSecond$Reader" "code"), (Jvm.Cond.laysFinal "OffOnTheSecond$Reader" "OffOnTheSecond$Reader" "pending" "LOffOnTheSecond$Line;"), (Jvm.Cond.soleField "OffOnTheSecond$Reader" "pending"), (Jvm.Cond.lays "OffOnTheSecond$Reader" "OffOnTheSecond$Reader" "wantsQ" "Z"), (Jvm.Cond.soleField "OffOnTheSecond$Reader" "wantsQ"), (Jvm.Cond.lays "OffOnTheSecond$Reader" "OffOnTheSecond$Reader" "open" "I"), (Jvm.Cond.soleField "OffOnTheSecond$Reader" "open"), (Jvm.Cond.lays "OffOnTheSecond$Reader" "OffOnTheSecond$Reader" "digits" "I"), (Jvm.Cond.soleField "OffOnTheSecond$Reader" "digits")]
set_option maxRecDepth 20000 in
theorem wk_225 : ∀ w ∈ wc_225, w ∈ lw_tbl := fun w h => List.mem_of_mem_drop (i := 225) (List.mem_of_mem_take (i := 25) ((show wc_225 = (lw_tbl.drop 225).take 25 from rfl) ▸ h))
def wc_250 : List Cond := [(Jvm.Cond.superclass "OffOnTheSecond$Reader" "java/lang/Object"), Cond.classLink "OffOnTheSecond" 39 "OffOnTheSecond$Sets", Cond.instantiable "OffOnTheSecond$Sets" 6, (Jvm.Cond.methodLinkNest "OffOnTheSecond" (41 : Nat) ({ cls := "OffOnTheSecond$Sets", name := "<init>", desc := "()V" } : Jvm.MethodName) "OffOnTheSecond"), Cond.instanceMethod yX5_init, Cond.code yX5_init prog_7_method_1_code 1 none, Cond.methodLink "OffOnTheSecond$Sets" 3 Lib.objectInit, Cond.classLink "OffOnTheSecond$Sets" 15 "OffOnTheSecond$Line", Cond.methodLink "OffOnTheSecond$Sets" 17 yX1_init, Cond.fieldLink "OffOnTheSecond$Sets" 9 "OffOnTheSecond$Sets" "found" "I", Cond.fieldLink "OffOnTheSecond" 240 "OffOnTheSecond$Sets" "found" "I", Cond.fieldLink "OffOnTheSecond$Sets" 20 "OffOnTheSecond$Sets" "values" "LOffOnTheSecond$Line;", Cond.fieldLink "OffOnTheSecond$Sets" 24 "OffOnTheSecond$Sets" "leasts" "[I", Cond.fieldLink "OffOnTheSecond$Sets" 28 "OffOnTheSecond$Sets" "mosts" "[I", Cond.fieldLink "OffOnTheSecond$Sets" 31 "OffOnTheSecond$Sets" "worths" "[I", Cond.fieldLink "OffOnTheSecond$Sets" 34 "OffOnTheSecond$Sets" "trues" "[I", (Jvm.Cond.lays "OffOnTheSecond$Sets" "OffOnTheSecond$Sets" "found" "I"), (Jvm.Cond.soleField "OffOnTheSecond$Sets" "found"), (Jvm.Cond.laysFinal "OffOnTheSecond$Sets" "OffOnTheSecond$Sets" "values" "LOffOnTheSecond$Line;"), (Jvm.Cond.soleField "OffOnTheSecond$Sets" "values"), (Jvm.Cond.laysFinal "OffOnTheSecond$Sets" "OffOnTheSecond$Sets" "leasts" "[I"), (Jvm.Cond.soleField "OffOnTheSecond$Sets" "leasts"), (Jvm.Cond.laysFinal "OffOnTheSecond$Sets" "OffOnTheSecond$Sets" "mosts" "[I"), (Jvm.Cond.soleField "OffOnTheSecond$Sets" "mosts"), (Jvm.Cond.laysFinal "OffOnTheSecond$Sets" "OffOnTheSecond$Sets" "worths" "[I")]
set_option maxRecDepth 20000 in
theorem wk_250 : ∀ w ∈ wc_250, w ∈ lw_tbl := fun w h => List.mem_of_mem_drop (i := 250) (List.mem_of_mem_take (i := 25) ((show wc_250 = (lw_tbl.drop 250).take 25 from rfl) ▸ h))
def wc_275 : List Cond := [(Jvm.Cond.soleField "OffOnTheSecond$Sets" "worths"), (Jvm.Cond.laysFinal "OffOnTheSecond$Sets" "OffOnTheSecond$Sets" "trues" "[I"), (Jvm.Cond.soleField "OffOnTheSecond$Sets" "trues"), (Jvm.Cond.superclass "OffOnTheSecond$Sets" "java/lang/Object"), Cond.classLink "OffOnTheSecond" 46 "OffOnTheSecond$Rows", Cond.instantiable "OffOnTheSecond$Rows" 5, (Jvm.Cond.methodLinkNest "OffOnTheSecond" (48 : Nat) ({ cls := "OffOnTheSecond$Rows", name := "<init>", desc := "()V" } : Jvm.MethodName) "OffOnTheSecond"), Cond.instanceMethod yX4_init, Cond.code yX4_init prog_6_method_1_code 1 none, Cond.methodLink "OffOnTheSecond$Rows" 3 Lib.objectInit, Cond.classLink "OffOnTheSecond$Rows" 15 "OffOnTheSecond$Line", Cond.methodLink "OffOnTheSecond$Rows" 17 yX1_init, Cond.fieldLink "OffOnTheSecond$Rows" 9 "OffOnTheSecond$Rows" "liked" "I", Cond.fieldLink "OffOnTheSecond" 252 "OffOnTheSecond$Rows" "liked" "I", Cond.fieldLink "OffOnTheSecond$Rows" 20 "OffOnTheSecond$Rows" "chosen" "LOffOnTheSecond$Line;", Cond.fieldLink "OffOnTheSecond" 255 "OffOnTheSecond$Rows" "chosen" "LOffOnTheSecond$Line;", Cond.fieldLink "OffOnTheSecond$Rows" 24 "OffOnTheSecond$Rows" "members" "LOffOnTheSecond$Line;", Cond.fieldLink "OffOnTheSecond$Rows" 27 "OffOnTheSecond$Rows" "likings" "LOffOnTheSecond$Line;", Cond.fieldLink "OffOnTheSecond$Rows" 30 "OffOnTheSecond$Rows" "best" "LOffOnTheSecond$Line;", (Jvm.Cond.lays "OffOnTheSecond$Rows" "OffOnTheSecond$Rows" "liked" "I"), (Jvm.Cond.soleField "OffOnTheSecond$Rows" "liked"), (Jvm.Cond.laysFinal "OffOnTheSecond$Rows" "OffOnTheSecond$Rows" "chosen" "LOffOnTheSecond$Line;"), (Jvm.Cond.soleField "OffOnTheSecond$Rows" "chosen"), (Jvm.Cond.laysFinal "OffOnTheSecond$Rows" "OffOnTheSecond$Rows" "members" "LOffOnTheSecond$Line;"), (Jvm.Cond.soleField "OffOnTheSecond$Rows" "members")]
set_option maxRecDepth 20000 in
theorem wk_275 : ∀ w ∈ wc_275, w ∈ lw_tbl := fun w h => List.mem_of_mem_drop (i := 275) (List.mem_of_mem_take (i := 25) ((show wc_275 = (lw_tbl.drop 275).take 25 from rfl) ▸ h))
def wc_300 : List Cond := [(Jvm.Cond.laysFinal "OffOnTheSecond$Rows" "OffOnTheSecond$Rows" "likings" "LOffOnTheSecond$Line;"), (Jvm.Cond.soleField "OffOnTheSecond$Rows" "likings"), (Jvm.Cond.laysFinal "OffOnTheSecond$Rows" "OffOnTheSecond$Rows" "best" "LOffOnTheSecond$Line;"), (Jvm.Cond.soleField "OffOnTheSecond$Rows" "best"), (Jvm.Cond.superclass "OffOnTheSecond$Rows" "java/lang/Object"), Cond.classLink "OffOnTheSecond" 53 "OffOnTheSecond$Odds", Cond.instantiable "OffOnTheSecond$Odds" 3, (Jvm.Cond.methodLinkNest "OffOnTheSecond" (55 : Nat) ({ cls := "OffOnTheSecond$Odds", name := "<init>", desc := "()V" } : Jvm.MethodName) "OffOnTheSecond"), Cond.instanceMethod yX2_init, Cond.code yX2_init prog_4_method_1_code 1 none, Cond.methodLink "OffOnTheSecond$Odds" 3 Lib.objectInit, Cond.fieldLink "OffOnTheSecond$Odds" 9 "OffOnTheSecond$Odds" "above" "J", Cond.fieldLink "OffOnTheSecond" 259 "OffOnTheSecond$Odds" "above" "J", Cond.fieldLink "OffOnTheSecond$Odds" 15 "OffOnTheSecond$Odds" "below" "J", Cond.fieldLink "OffOnTheSecond" 263 "OffOnTheSecond$Odds" "below" "J", Cond.fieldLink "OffOnTheSecond$Odds" 18 "OffOnTheSecond$Odds" "ways" "[J", (Jvm.Cond.lays "OffOnTheSecond$Odds" "OffOnTheSecond$Odds" "above" "J"), (Jvm.Cond.soleField "OffOnTheSecond$Odds" "above"), (Jvm.Cond.lays "OffOnTheSecond$Odds" "OffOnTheSecond$Odds" "below" "J"), (Jvm.Cond.soleField "OffOnTheSecond$Odds" "below"), (Jvm.Cond.laysFinal "OffOnTheSecond$Odds" "OffOnTheSecond$Odds" "ways" "[J"), (Jvm.Cond.soleField "OffOnTheSecond$Odds" "ways"), (Jvm.Cond.superclass "OffOnTheSecond$Odds" "java/lang/Object"), Cond.arrayClass .long, Cond.classLink "OffOnTheSecond" 60 "OffOnTheSecond$Voices"]
set_option maxRecDepth 20000 in
theorem wk_300 : ∀ w ∈ wc_300, w ∈ lw_tbl := fun w h => List.mem_of_mem_drop (i := 300) (List.mem_of_mem_take (i := 25) ((show wc_300 = (lw_tbl.drop 300).take 25 from rfl) ▸ h))
def wc_325 : List Cond := [Cond.instantiable "OffOnTheSecond$Voices" 5, (Jvm.Cond.methodLinkNest "OffOnTheSecond" (62 : Nat) ({ cls := "OffOnTheSecond$Voices", name := "<init>", desc := "()V" } : Jvm.MethodName) "OffOnTheSecond"), Cond.instanceMethod yX9_init, Cond.code yX9_init prog_11_method_1_code 1 none, Cond.methodLink "OffOnTheSecond$Voices" 3 Lib.objectInit, Cond.classLink "OffOnTheSecond$Voices" 9 "OffOnTheSecond$Line", Cond.methodLink "OffOnTheSecond$Voices" 11 yX1_init, Cond.fieldLink "OffOnTheSecond$Voices" 14 "OffOnTheSecond$Voices" "trace" "LOffOnTheSecond$Line;", Cond.fieldLink "OffOnTheSecond" 292 "OffOnTheSecond$Voices" "trace" "LOffOnTheSecond$Line;", Cond.fieldLink "OffOnTheSecond$Voices" 20 "OffOnTheSecond$Voices" "parted" "Z", Cond.fieldLink "OffOnTheSecond" 288 "OffOnTheSecond$Voices" "parted" "Z", Cond.fieldLink "OffOnTheSecond$Voices" 24 "OffOnTheSecond$Voices" "kind" "I", Cond.fieldLink "OffOnTheSecond$Voices" 28 "OffOnTheSecond$Voices" "k" "I", Cond.fieldLink "OffOnTheSecond$Voices" 31 "OffOnTheSecond$Voices" "m" "I", (Jvm.Cond.laysFinal "OffOnTheSecond$Voices" "OffOnTheSecond$Voices" "trace" "LOffOnTheSecond$Line;"), (Jvm.Cond.soleField "OffOnTheSecond$Voices" "trace"), (Jvm.Cond.lays "OffOnTheSecond$Voices" "OffOnTheSecond$Voices" "parted" "Z"), (Jvm.Cond.soleField "OffOnTheSecond$Voices" "parted"), (Jvm.Cond.lays "OffOnTheSecond$Voices" "OffOnTheSecond$Voices" "kind" "I"), (Jvm.Cond.soleField "OffOnTheSecond$Voices" "kind"), (Jvm.Cond.lays "OffOnTheSecond$Voices" "OffOnTheSecond$Voices" "k" "I"), (Jvm.Cond.soleField "OffOnTheSecond$Voices" "k"), (Jvm.Cond.lays "OffOnTheSecond$Voices" "OffOnTheSecond$Voices" "m" "I"), (Jvm.Cond.soleField "OffOnTheSecond$Voices" "m"), (Jvm.Cond.superclass "OffOnTheSecond$Voices" "java/lang/Object")]
set_option maxRecDepth 20000 in
theorem wk_325 : ∀ w ∈ wc_325, w ∈ lw_tbl := fun w h => List.mem_of_mem_drop (i := 325) (List.mem_of_mem_take (i := 25) ((show wc_325 = (lw_tbl.drop 325).take 25 from rfl) ▸ h))
def wc_350 : List Cond := [Cond.classLink "OffOnTheSecond" 67 "OffOnTheSecond$Sheet", (Jvm.Cond.arrayOver (Jvm.ClassFile.FieldType.object "OffOnTheSecond$Sheet")), Cond.instantiable "OffOnTheSecond$Sheet" 2, (Jvm.Cond.methodLinkNest "OffOnTheSecond" (73 : Nat) ({ cls := "OffOnTheSecond$Sheet", name := "<init>", desc := "()V" } : Jvm.MethodName) "OffOnTheSecond"), Cond.instanceMethod yX6_init, Cond.code yX6_init prog_8_method_1_code 1 none, Cond.methodLink "OffOnTheSecond$Sheet" 3 Lib.objectInit, Cond.classLink "OffOnTheSecond$Sheet" 15 "OffOnTheSecond$Line", Cond.methodLink "OffOnTheSecond$Sheet" 17 yX1_init, Cond.fieldLink "OffOnTheSecond$Sheet" 9 "OffOnTheSecond$Sheet" "bits" "I", Cond.fieldLink "OffOnTheSecond" 301 "OffOnTheSecond$Sheet" "bits" "I", Cond.fieldLink "OffOnTheSecond$Sheet" 20 "OffOnTheSecond$Sheet" "numbers" "LOffOnTheSecond$Line;", Cond.fieldLink "OffOnTheSecond" 277 "OffOnTheSecond$Sheet" "numbers" "LOffOnTheSecond$Line;", (Jvm.Cond.lays "OffOnTheSecond$Sheet" "OffOnTheSecond$Sheet" "bits" "I"), (Jvm.Cond.soleField "OffOnTheSecond$Sheet" "bits"), (Jvm.Cond.laysFinal "OffOnTheSecond$Sheet" "OffOnTheSecond$Sheet" "numbers" "LOffOnTheSecond$Line;"), (Jvm.Cond.soleField "OffOnTheSecond$Sheet" "numbers"), (Jvm.Cond.superclass "OffOnTheSecond$Sheet" "java/lang/Object"), Cond.fieldLink "OffOnTheSecond" 10 "OffOnTheSecond" "show" "LOffOnTheSecond$Show;", Cond.fieldLink "OffOnTheSecond" 16 "OffOnTheSecond" "kept" "LOffOnTheSecond$Show;", Cond.fieldLink "OffOnTheSecond" 19 "OffOnTheSecond" "images" "I", Cond.fieldLink "OffOnTheSecond" 28 "OffOnTheSecond" "errors" "LOffOnTheSecond$Line;", Cond.fieldLink "OffOnTheSecond" 35 "OffOnTheSecond" "reader" "LOffOnTheSecond$Reader;", Cond.fieldLink "OffOnTheSecond" 42 "OffOnTheSecond" "sets" "LOffOnTheSecond$Sets;", Cond.fieldLink "OffOnTheSecond" 49 "OffOnTheSecond" "rows" "LOffOnTheSecond$Rows;"]
set_option maxRecDepth 20000 in
theorem wk_350 : ∀ w ∈ wc_350, w ∈ lw_tbl := fun w h => List.mem_of_mem_drop (i := 350) (List.mem_of_mem_take (i := 25) ((show wc_350 = (lw_tbl.drop 350).take 25 from rfl) ▸ h))
def wc_375 : List Cond := [Cond.fieldLink "OffOnTheSecond" 56 "OffOnTheSecond" "chances" "LOffOnTheSecond$Odds;", Cond.fieldLink "OffOnTheSecond" 63 "OffOnTheSecond" "voices" "LOffOnTheSecond$Voices;", Cond.fieldLink "OffOnTheSecond" 69 "OffOnTheSecond" "sheets" "[LOffOnTheSecond$Sheet;", (Jvm.Cond.laysFinal "OffOnTheSecond" "OffOnTheSecond" "show" "LOffOnTheSecond$Show;"), (Jvm.Cond.soleField "OffOnTheSecond" "show"), (Jvm.Cond.laysFinal "OffOnTheSecond" "OffOnTheSecond" "kept" "LOffOnTheSecond$Show;"), (Jvm.Cond.soleField "OffOnTheSecond" "kept"), (Jvm.Cond.lays "OffOnTheSecond" "OffOnTheSecond" "images" "I"), (Jvm.Cond.soleField "OffOnTheSecond" "images"), (Jvm.Cond.laysFinal "OffOnTheSecond" "OffOnTheSecond" "errors" "LOffOnTheSecond$Line;"), (Jvm.Cond.soleField "OffOnTheSecond" "errors"), (Jvm.Cond.laysFinal "OffOnTheSecond" "OffOnTheSecond" "reader" "LOffOnTheSecond$Reader;"), (Jvm.Cond.soleField "OffOnTheSecond" "reader"), (Jvm.Cond.laysFinal "OffOnTheSecond" "OffOnTheSecond" "sets" "LOffOnTheSecond$Sets;"), (Jvm.Cond.soleField "OffOnTheSecond" "sets"), (Jvm.Cond.laysFinal "OffOnTheSecond" "OffOnTheSecond" "rows" "LOffOnTheSecond$Rows;"), (Jvm.Cond.soleField "OffOnTheSecond" "rows"), (Jvm.Cond.laysFinal "OffOnTheSecond" "OffOnTheSecond" "chances" "LOffOnTheSecond$Odds;"), (Jvm.Cond.soleField "OffOnTheSecond" "chances"), (Jvm.Cond.laysFinal "OffOnTheSecond" "OffOnTheSecond" "voices" "LOffOnTheSecond$Voices;"), (Jvm.Cond.soleField "OffOnTheSecond" "voices"), (Jvm.Cond.laysFinal "OffOnTheSecond" "OffOnTheSecond" "sheets" "[LOffOnTheSecond$Sheet;"), (Jvm.Cond.soleField "OffOnTheSecond" "sheets"), (Jvm.Cond.superclass "OffOnTheSecond" "java/lang/Object"), Cond.methodLink "OffOnTheSecondLaw" 13 yX10_item]
set_option maxRecDepth 20000 in
theorem wk_375 : ∀ w ∈ wc_375, w ∈ lw_tbl := fun w h => List.mem_of_mem_drop (i := 375) (List.mem_of_mem_take (i := 25) ((show wc_375 = (lw_tbl.drop 375).take 25 from rfl) ▸ h))
def wc_400 : List Cond := [Cond.instanceMethod yX10_item, Cond.selects "OffOnTheSecond" yX10_item yX10_item, Cond.code yX10_item prog_1_method_2_code 3 (some (.int)), Cond.methodLink "OffOnTheSecond" 74 yX10_isKm, Cond.static yX10_isKm, Cond.code yX10_isKm prog_1_method_46_code 1 (some (.boolean)), Cond.methodLink "OffOnTheSecond" 78 yX10_isTruth, Cond.static yX10_isTruth, Cond.code yX10_isTruth prog_1_method_47_code 1 (some (.boolean)), Cond.methodLink "OffOnTheSecond" 81 yX10_error, (Jvm.Cond.privateMethod ({ cls := "OffOnTheSecond", name := "error", desc := "(I)I" } : Jvm.MethodName)), Cond.instanceMethod yX10_error, Cond.code yX10_error prog_1_method_42_code 2 (some (.int)), Cond.methodLink "OffOnTheSecond" 104 yX1_at, Cond.instanceMethod yX1_at, Cond.selects "OffOnTheSecond$Line" yX1_at yX1_at, Cond.code yX1_at prog_3_method_4_code 2 (some (.int)), Cond.methodLink "OffOnTheSecond" 133 yX1_set, Cond.instanceMethod yX1_set, Cond.selects "OffOnTheSecond$Line" yX1_set yX1_set, Cond.code yX1_set prog_3_method_5_code 3 none, Cond.constant "OffOnTheSecond" 336 (-1000000000), Cond.methodLink "OffOnTheSecond" 94 yX0_append, Cond.instanceMethod yX0_append, Cond.selects "OffOnTheSecond$Items" yX0_append yX0_append]
set_option maxRecDepth 20000 in
theorem wk_400 : ∀ w ∈ wc_400, w ∈ lw_tbl := fun w h => List.mem_of_mem_drop (i := 400) (List.mem_of_mem_take (i := 25) ((show wc_400 = (lw_tbl.drop 400).take 25 from rfl) ▸ h))
def wc_425 : List Cond := [Cond.code yX0_append prog_2_method_7_code 4 (some (.int)), Cond.methodLink "OffOnTheSecond$Items" 55 yX0_name, Cond.instanceMethod yX0_name, Cond.selects "OffOnTheSecond$Items" yX0_name yX0_name, Cond.code yX0_name prog_2_method_8_code 3 none, Cond.methodLink "OffOnTheSecond$Items" 59 yX1_set, Cond.methodLink "OffOnTheSecondLaw" 18 yX10_itemIs, Cond.instanceMethod yX10_itemIs, Cond.selects "OffOnTheSecond" yX10_itemIs yX10_itemIs, Cond.code yX10_itemIs prog_1_method_3_code 4 (some (.int)), Cond.methodLink "OffOnTheSecond" 98 yX0_has, Cond.instanceMethod yX0_has, Cond.selects "OffOnTheSecond$Items" yX0_has yX0_has, Cond.code yX0_has prog_2_method_4_code 2 (some (.boolean)), Cond.methodLink "OffOnTheSecond" 113 yX0_least, Cond.instanceMethod yX0_least, Cond.selects "OffOnTheSecond$Items" yX0_least yX0_least, Cond.code yX0_least prog_2_method_9_code 4 (some (.int)), Cond.methodLink "OffOnTheSecond$Items" 48 yX1_at, Cond.methodLink "OffOnTheSecond$Items" 62 Lib.Math.min.name, Cond.static Lib.Math.min.name, Cond.code Lib.Math.min.name Lib.Math.min.code 2 (some .int), Cond.methodLink "OffOnTheSecond" 116 yX0_most, Cond.instanceMethod yX0_most, Cond.selects "OffOnTheSecond$Items" yX0_most yX0_most]
set_option maxRecDepth 20000 in
theorem wk_425 : ∀ w ∈ wc_425, w ∈ lw_tbl := fun w h => List.mem_of_mem_drop (i := 425) (List.mem_of_mem_take (i := 25) ((show wc_425 = (lw_tbl.drop 425).take 25 from rfl) ▸ h))
def wc_450 : List Cond := [Cond.code yX0_most prog_2_method_10_code 4 (some (.int)), Cond.methodLink "OffOnTheSecond" 119 yX0_placeOf, Cond.instanceMethod yX0_placeOf, Cond.selects "OffOnTheSecond$Items" yX0_placeOf yX0_placeOf, Cond.code yX0_placeOf prog_2_method_11_code 4 (some (.int)), Cond.methodLink "OffOnTheSecondLaw" 22 yX10_become, Cond.instanceMethod yX10_become, Cond.selects "OffOnTheSecond" yX10_become yX10_become, Cond.code yX10_become prog_1_method_4_code 4 (some (.int)), Cond.methodLink "OffOnTheSecond" 125 yX0_name, Cond.methodLink "OffOnTheSecondLaw" 26 yX10_as, Cond.instanceMethod yX10_as, Cond.selects "OffOnTheSecond" yX10_as yX10_as, Cond.code yX10_as prog_1_method_5_code 3 (some (.int)), Cond.methodLink "OffOnTheSecond" 129 yX0_isOf, Cond.instanceMethod yX0_isOf, Cond.selects "OffOnTheSecond$Items" yX0_isOf yX0_isOf, Cond.code yX0_isOf prog_2_method_6_code 3 (some (.boolean)), Cond.methodLink "OffOnTheSecond$Items" 51 yX0_isUnder, Cond.static yX0_isUnder, Cond.code yX0_isUnder prog_2_method_3_code 4 (some (.boolean)), Cond.methodLink "OffOnTheSecond$Items" 40 yX0_above, Cond.static yX0_above, Cond.code yX0_above prog_2_method_2_code 1 (some (.int)), Cond.fieldLink "OffOnTheSecond$Items" 36 "OffOnTheSecond$Items" "KIND_ABOVE" "[I"]
set_option maxRecDepth 20000 in
theorem wk_450 : ∀ w ∈ wc_450, w ∈ lw_tbl := fun w h => List.mem_of_mem_drop (i := 450) (List.mem_of_mem_take (i := 25) ((show wc_450 = (lw_tbl.drop 450).take 25 from rfl) ▸ h))
def wc_475 : List Cond := [(Jvm.Cond.laysStatic "OffOnTheSecond$Items" "KIND_ABOVE" "[I"), Cond.methodLink "OffOnTheSecondLaw" 30 yX10_truth, Cond.instanceMethod yX10_truth, Cond.selects "OffOnTheSecond" yX10_truth yX10_truth, Cond.code yX10_truth prog_1_method_6_code 4 (some (.int)), Cond.methodLink "OffOnTheSecondLaw" 34 yX10_shift, Cond.instanceMethod yX10_shift, Cond.selects "OffOnTheSecond" yX10_shift yX10_shift, Cond.code yX10_shift prog_1_method_7_code 3 (some (.int)), Cond.methodLink "OffOnTheSecond" 136 yX0_isLeft, Cond.instanceMethod yX0_isLeft, Cond.selects "OffOnTheSecond$Items" yX0_isLeft yX0_isLeft, Cond.code yX0_isLeft prog_2_method_5_code 2 (some (.boolean)), Cond.methodLink "OffOnTheSecond$Items" 44 yX0_has, Cond.methodLink "OffOnTheSecond" 139 yX0_bringTo, Cond.instanceMethod yX0_bringTo, Cond.selects "OffOnTheSecond$Items" yX0_bringTo yX0_bringTo, Cond.code yX0_bringTo prog_2_method_12_code 5 (some (.int)), Cond.methodLink "OffOnTheSecond$Items" 68 yX0_placeOf, Cond.methodLink "OffOnTheSecondLaw" 38 yX10_clock, Cond.instanceMethod yX10_clock, Cond.selects "OffOnTheSecond" yX10_clock yX10_clock, Cond.code yX10_clock prog_1_method_8_code 3 (some (.int)), Cond.methodLink "OffOnTheSecond" 142 yX7_setClock, Cond.instanceMethod yX7_setClock]
set_option maxRecDepth 20000 in
theorem wk_475 : ∀ w ∈ wc_475, w ∈ lw_tbl := fun w h => List.mem_of_mem_drop (i := 475) (List.mem_of_mem_take (i := 25) ((show wc_475 = (lw_tbl.drop 475).take 25 from rfl) ▸ h))
def wc_500 : List Cond := [Cond.selects "OffOnTheSecond$Show" yX7_setClock yX7_setClock, Cond.code yX7_setClock prog_9_method_2_code 4 (some (.int)), Cond.methodLink "OffOnTheSecondLaw" 44 yX10_feed, Cond.instanceMethod yX10_feed, Cond.selects "OffOnTheSecond" yX10_feed yX10_feed, Cond.code yX10_feed prog_1_method_9_code 5 (some (.int)), Cond.methodLink "OffOnTheSecond" 148 yX1_hasRoom, Cond.instanceMethod yX1_hasRoom, Cond.selects "OffOnTheSecond$Line" yX1_hasRoom yX1_hasRoom, Cond.code yX1_hasRoom prog_3_method_2_code 2 (some (.boolean)), Cond.constantLong "OffOnTheSecond" 151 (255), Cond.methodLink "OffOnTheSecond" 153 yX1_append, Cond.instanceMethod yX1_append, Cond.selects "OffOnTheSecond$Line" yX1_append yX1_append, Cond.code yX1_append prog_3_method_6_code 2 none, Cond.methodLink "OffOnTheSecondLaw" 49 yX10_text, Cond.instanceMethod yX10_text, Cond.selects "OffOnTheSecond" yX10_text yX10_text, Cond.code yX10_text prog_1_method_10_code 3 (some (.int)), Cond.methodLink "OffOnTheSecond" 156 yX10_isUse, Cond.static yX10_isUse, Cond.code yX10_isUse prog_1_method_48_code 1 (some (.boolean)), Cond.methodLink "OffOnTheSecond" 159 yX3_faultOf, Cond.instanceMethod yX3_faultOf, Cond.selects "OffOnTheSecond$Reader" yX3_faultOf yX3_faultOf]
set_option maxRecDepth 20000 in
theorem wk_500 : ∀ w ∈ wc_500, w ∈ lw_tbl := fun w h => List.mem_of_mem_drop (i := 500) (List.mem_of_mem_take (i := 25) ((show wc_500 = (lw_tbl.drop 500).take 25 from rfl) ▸ h))
def wc_525 : List Cond := [Cond.code yX3_faultOf prog_5_method_2_code 4 (some (.int)), Cond.methodLink "OffOnTheSecond$Reader" 34 yX1_clear, Cond.instanceMethod yX1_clear, Cond.selects "OffOnTheSecond$Line" yX1_clear yX1_clear, Cond.code yX1_clear prog_3_method_9_code 1 none, Cond.methodLink "OffOnTheSecond$Reader" 40 yX1_at, Cond.methodLink "OffOnTheSecond$Reader" 44 yX3_takes, (Jvm.Cond.privateMethod ({ cls := "OffOnTheSecond$Reader", name := "takes", desc := "(II)Z" } : Jvm.MethodName)), Cond.instanceMethod yX3_takes, Cond.code yX3_takes prog_5_method_3_code 3 (some (.boolean)), Cond.methodLink "OffOnTheSecond$Reader" 52 yX3_takesDigit, (Jvm.Cond.privateMethod ({ cls := "OffOnTheSecond$Reader", name := "takesDigit", desc := "(I)Z" } : Jvm.MethodName)), Cond.instanceMethod yX3_takesDigit, Cond.code yX3_takesDigit prog_5_method_4_code 3 (some (.boolean)), Cond.methodLink "OffOnTheSecond$Reader" 62 yX1_takeLast, Cond.instanceMethod yX1_takeLast, Cond.selects "OffOnTheSecond$Line" yX1_takeLast yX1_takeLast, Cond.code yX1_takeLast prog_3_method_8_code 1 (some (.int)), Cond.methodLink "OffOnTheSecond$Reader" 66 yX1_append, Cond.methodLink "OffOnTheSecond$Reader" 56 yX3_takesStart, (Jvm.Cond.privateMethod ({ cls := "OffOnTheSecond$Reader", name := "takesStart", desc := "(II)Z" } : Jvm.MethodName)), Cond.instanceMethod yX3_takesStart, Cond.code yX3_takesStart prog_5_method_5_code 4 (some (.boolean)), Cond.methodLink "OffOnTheSecond$Reader" 69 yX3_nameOf, Cond.static yX3_nameOf]
set_option maxRecDepth 20000 in
theorem wk_525 : ∀ w ∈ wc_525, w ∈ lw_tbl := fun w h => List.mem_of_mem_drop (i := 525) (List.mem_of_mem_take (i := 25) ((show wc_525 = (lw_tbl.drop 525).take 25 from rfl) ▸ h))
def wc_550 : List Cond := [Cond.code yX3_nameOf prog_5_method_11_code 4 (some (.int)), Cond.fieldLink "OffOnTheSecond$Reader" 85 "OffOnTheSecond$Reader" "WORTH_NAMES" "[C", (Jvm.Cond.laysStatic "OffOnTheSecond$Reader" "WORTH_NAMES" "[C"), Cond.fieldLink "OffOnTheSecond$Reader" 89 "OffOnTheSecond$Reader" "LIKED_NAMES" "[C", (Jvm.Cond.laysStatic "OffOnTheSecond$Reader" "LIKED_NAMES" "[C"), Cond.methodLink "OffOnTheSecond$Reader" 59 yX3_takesNext, (Jvm.Cond.privateMethod ({ cls := "OffOnTheSecond$Reader", name := "takesNext", desc := "(I)Z" } : Jvm.MethodName)), Cond.instanceMethod yX3_takesNext, Cond.code yX3_takesNext prog_5_method_6_code 3 (some (.boolean)), Cond.methodLink "OffOnTheSecond$Reader" 73 yX3_closes, (Jvm.Cond.privateMethod ({ cls := "OffOnTheSecond$Reader", name := "closes", desc := "()Z" } : Jvm.MethodName)), Cond.instanceMethod yX3_closes, Cond.code yX3_closes prog_5_method_7_code 1 (some (.boolean)), Cond.methodLink "OffOnTheSecond$Reader" 79 yX3_settle, (Jvm.Cond.privateMethod ({ cls := "OffOnTheSecond$Reader", name := "settle", desc := "(I)V" } : Jvm.MethodName)), Cond.instanceMethod yX3_settle, Cond.code yX3_settle prog_5_method_9_code 4 none, Cond.methodLink "OffOnTheSecond$Reader" 82 yX1_last, Cond.instanceMethod yX1_last, Cond.selects "OffOnTheSecond$Line" yX1_last yX1_last, Cond.code yX1_last prog_3_method_7_code 1 (some (.int)), Cond.methodLink "OffOnTheSecond$Reader" 76 yX3_rankOf, Cond.static yX3_rankOf, Cond.code yX3_rankOf prog_5_method_10_code 1 (some (.int)), Cond.methodLink "OffOnTheSecond$Reader" 48 yX3_isWhole]
set_option maxRecDepth 20000 in
theorem wk_550 : ∀ w ∈ wc_550, w ∈ lw_tbl := fun w h => List.mem_of_mem_drop (i := 550) (List.mem_of_mem_take (i := 25) ((show wc_550 = (lw_tbl.drop 550).take 25 from rfl) ▸ h))
def wc_575 : List Cond := [(Jvm.Cond.privateMethod ({ cls := "OffOnTheSecond$Reader", name := "isWhole", desc := "()Z" } : Jvm.MethodName)), Cond.instanceMethod yX3_isWhole, Cond.code yX3_isWhole prog_5_method_8_code 1 (some (.boolean)), Cond.methodLink "OffOnTheSecond" 163 yX1_clear, Cond.methodLink "OffOnTheSecond" 166 yX7_textOf, Cond.instanceMethod yX7_textOf, Cond.selects "OffOnTheSecond$Show" yX7_textOf yX7_textOf, Cond.code yX7_textOf prog_9_method_11_code 2 (some (.object "OffOnTheSecond$Text")), Cond.methodLink "OffOnTheSecond" 173 yX8_learn, Cond.instanceMethod yX8_learn, Cond.selects "OffOnTheSecond$Text" yX8_learn yX8_learn, Cond.code yX8_learn prog_10_method_2_code 2 none, Cond.methodLink "OffOnTheSecond$Text" 27 yX1_takeFrom, Cond.instanceMethod yX1_takeFrom, Cond.selects "OffOnTheSecond$Line" yX1_takeFrom yX1_takeFrom, Cond.code yX1_takeFrom prog_3_method_10_code 3 none, Cond.methodLink "OffOnTheSecond$Line" 23 yX1_at, Cond.methodLink "OffOnTheSecond$Line" 27 Lib.Math.min.name, Cond.methodLink "OffOnTheSecondLaw" 54 yX10_untell, Cond.instanceMethod yX10_untell, Cond.selects "OffOnTheSecond" yX10_untell yX10_untell, Cond.code yX10_untell prog_1_method_11_code 2 (some (.int)), Cond.methodLink "OffOnTheSecond" 179 yX8_forget, Cond.instanceMethod yX8_forget, Cond.selects "OffOnTheSecond$Text" yX8_forget yX8_forget]
set_option maxRecDepth 20000 in
theorem wk_575 : ∀ w ∈ wc_575, w ∈ lw_tbl := fun w h => List.mem_of_mem_drop (i := 575) (List.mem_of_mem_take (i := 25) ((show wc_575 = (lw_tbl.drop 575).take 25 from rfl) ▸ h))
def wc_600 : List Cond := [Cond.code yX8_forget prog_10_method_3_code 2 (some (.boolean)), Cond.methodLink "OffOnTheSecondLaw" 58 yX10_law, Cond.instanceMethod yX10_law, Cond.selects "OffOnTheSecond" yX10_law yX10_law, Cond.code yX10_law prog_1_method_12_code 5 (some (.int)), Cond.methodLink "OffOnTheSecond" 183 yX7_worthBy, Cond.instanceMethod yX7_worthBy, Cond.selects "OffOnTheSecond$Show" yX7_worthBy yX7_worthBy, Cond.code yX7_worthBy prog_9_method_12_code 4 (some (.int)), Cond.methodLink "OffOnTheSecond$Show" 119 yX8_give, Cond.instanceMethod yX8_give, Cond.selects "OffOnTheSecond$Text" yX8_give yX8_give, Cond.code yX8_give prog_10_method_4_code 8 (some (.int)), Cond.methodLink "OffOnTheSecond$Text" 31 yX1_clear, Cond.methodLink "OffOnTheSecond$Text" 38 yX1_at, Cond.methodLink "OffOnTheSecond$Text" 42 yX1_append, Cond.methodLink "OffOnTheSecond$Text" 45 yX1_takeLast, Cond.methodLink "OffOnTheSecond$Text" 49 yX8_joined, Cond.static yX8_joined, Cond.code yX8_joined prog_10_method_5_code 3 (some (.int)), (Jvm.Cond.methodLinkNest "OffOnTheSecond$Show" (123 : Nat) ({ cls := "OffOnTheSecond", name := "within", desc := "(III)I" } : Jvm.MethodName) "OffOnTheSecond"), Cond.static yX10_within, Cond.code yX10_within prog_1_method_49_code 3 (some (.int)), Cond.methodLink "OffOnTheSecond" 337 Lib.Math.min.name, Cond.methodLink "OffOnTheSecond" 342 Lib.Math.max.name]
set_option maxRecDepth 20000 in
theorem wk_600 : ∀ w ∈ wc_600, w ∈ lw_tbl := fun w h => List.mem_of_mem_drop (i := 600) (List.mem_of_mem_take (i := 25) ((show wc_600 = (lw_tbl.drop 600).take 25 from rfl) ▸ h))
def wc_625 : List Cond := [Cond.methodLink "OffOnTheSecond" 187 yX7_likingBy, Cond.instanceMethod yX7_likingBy, Cond.selects "OffOnTheSecond$Show" yX7_likingBy yX7_likingBy, Cond.code yX7_likingBy prog_9_method_13_code 4 (some (.int)), Cond.methodLink "OffOnTheSecondLaw" 63 yX10_air, Cond.instanceMethod yX10_air, Cond.selects "OffOnTheSecond" yX10_air yX10_air, Cond.code yX10_air prog_1_method_13_code 3 (some (.int)), Cond.methodLink "OffOnTheSecond" 190 yX0_on, Cond.instanceMethod yX0_on, Cond.selects "OffOnTheSecond$Items" yX0_on yX0_on, Cond.code yX0_on prog_2_method_13_code 2 (some (.int)), Cond.methodLink "OffOnTheSecond$Items" 71 yX0_isLeft, Cond.methodLink "OffOnTheSecond" 197 yX7_finish, Cond.instanceMethod yX7_finish, Cond.selects "OffOnTheSecond$Show" yX7_finish yX7_finish, Cond.code yX7_finish prog_9_method_5_code 3 (some (.int)), Cond.methodLink "OffOnTheSecond$Show" 66 yX1_set, Cond.methodLink "OffOnTheSecondLaw" 67 yX10_breaks, Cond.instanceMethod yX10_breaks, Cond.selects "OffOnTheSecond" yX10_breaks yX10_breaks, Cond.code yX10_breaks prog_1_method_14_code 2 (some (.int)), Cond.methodLink "OffOnTheSecondLaw" 71 yX10_drop, Cond.instanceMethod yX10_drop, Cond.selects "OffOnTheSecond" yX10_drop yX10_drop]
set_option maxRecDepth 20000 in
theorem wk_625 : ∀ w ∈ wc_625, w ∈ lw_tbl := fun w h => List.mem_of_mem_drop (i := 625) (List.mem_of_mem_take (i := 25) ((show wc_625 = (lw_tbl.drop 625).take 25 from rfl) ▸ h))
def wc_650 : List Cond := [Cond.code yX10_drop prog_1_method_15_code 2 (some (.int)), Cond.methodLink "OffOnTheSecond" 200 yX0_howManyLeft, Cond.instanceMethod yX0_howManyLeft, Cond.selects "OffOnTheSecond$Items" yX0_howManyLeft yX0_howManyLeft, Cond.code yX0_howManyLeft prog_2_method_15_code 1 (some (.int)), Cond.methodLink "OffOnTheSecond$Items" 74 yX0_leftSet, Cond.instanceMethod yX0_leftSet, Cond.selects "OffOnTheSecond$Items" yX0_leftSet yX0_leftSet, Cond.code yX0_leftSet prog_2_method_14_code 3 (some (.int)), Cond.methodLink "OffOnTheSecond$Items" 78 yJ6_bitCount_0f7a4, Cond.static yJ6_bitCount_0f7a4, Cond.code yJ6_bitCount_0f7a4 prog_14_method_49_code 1 (some (.int)), Cond.constant "java/lang/Integer" 265 (1431655765), Cond.constant "java/lang/Integer" 266 (858993459), Cond.constant "java/lang/Integer" 267 (252645135), Cond.methodLink "OffOnTheSecondLaw" 75 yX10_loose, Cond.instanceMethod yX10_loose, Cond.selects "OffOnTheSecond" yX10_loose yX10_loose, Cond.code yX10_loose prog_1_method_16_code 4 (some (.int)), Cond.methodLink "OffOnTheSecond" 203 yX7_finishesOneByDraw, Cond.instanceMethod yX7_finishesOneByDraw, Cond.selects "OffOnTheSecond$Show" yX7_finishesOneByDraw yX7_finishesOneByDraw, Cond.code yX7_finishesOneByDraw prog_9_method_6_code 5 (some (.boolean)), Cond.methodLink "OffOnTheSecond$Show" 70 yX0_on, Cond.methodLink "OffOnTheSecond$Show" 73 yX0_least]
set_option maxRecDepth 20000 in
theorem wk_650 : ∀ w ∈ wc_650, w ∈ lw_tbl := fun w h => List.mem_of_mem_drop (i := 650) (List.mem_of_mem_take (i := 25) ((show wc_650 = (lw_tbl.drop 650).take 25 from rfl) ▸ h))
def wc_675 : List Cond := [Cond.methodLink "OffOnTheSecond$Show" 77 yX0_most, Cond.methodLink "OffOnTheSecond$Show" 80 Lib.Math.max.name, Cond.methodLink "OffOnTheSecond$Show" 86 yX7_draw, (Jvm.Cond.privateMethod ({ cls := "OffOnTheSecond$Show", name := "draw", desc := "()I" } : Jvm.MethodName)), Cond.instanceMethod yX7_draw, Cond.code yX7_draw prog_9_method_7_code 1 (some (.int)), Cond.constant "OffOnTheSecond$Show" 92 (1103515245), Cond.methodLink "OffOnTheSecond$Show" 89 yX7_finish, Cond.methodLink "OffOnTheSecondLaw" 79 yX10_anew, Cond.instanceMethod yX10_anew, Cond.selects "OffOnTheSecond" yX10_anew yX10_anew, Cond.code yX10_anew prog_1_method_17_code 1 (some (.int)), Cond.methodLink "OffOnTheSecond" 206 yX0_bringBackDone, Cond.instanceMethod yX0_bringBackDone, Cond.selects "OffOnTheSecond$Items" yX0_bringBackDone yX0_bringBackDone, Cond.code yX0_bringBackDone prog_2_method_21_code 2 none, Cond.methodLink "OffOnTheSecondLaw" 84 yX10_seed, Cond.instanceMethod yX10_seed, Cond.selects "OffOnTheSecond" yX10_seed yX10_seed, Cond.code yX10_seed prog_1_method_18_code 3 (some (.int)), Cond.methodLink "OffOnTheSecondLaw" 88 yX10_over, Cond.instanceMethod yX10_over, Cond.selects "OffOnTheSecond" yX10_over yX10_over, Cond.code yX10_over prog_1_method_19_code 1 (some (.int)), Cond.methodLink "OffOnTheSecond" 212 yX0_trueOfLeft]
set_option maxRecDepth 20000 in
theorem wk_675 : ∀ w ∈ wc_675, w ∈ lw_tbl := fun w h => List.mem_of_mem_drop (i := 675) (List.mem_of_mem_take (i := 25) ((show wc_675 = (lw_tbl.drop 675).take 25 from rfl) ▸ h))
def wc_700 : List Cond := [Cond.instanceMethod yX0_trueOfLeft, Cond.selects "OffOnTheSecond$Items" yX0_trueOfLeft yX0_trueOfLeft, Cond.code yX0_trueOfLeft prog_2_method_16_code 3 (some (.int)), Cond.methodLink "OffOnTheSecond" 215 yX7_there, Cond.instanceMethod yX7_there, Cond.selects "OffOnTheSecond$Show" yX7_there yX7_there, Cond.code yX7_there prog_9_method_3_code 1 (some (.int)), Cond.methodLink "OffOnTheSecondLaw" 92 yX10_fits, Cond.instanceMethod yX10_fits, Cond.selects "OffOnTheSecond" yX10_fits yX10_fits, Cond.code yX10_fits prog_1_method_20_code 1 (some (.int)), Cond.methodLink "OffOnTheSecond" 218 yX7_fitsLeft, Cond.instanceMethod yX7_fitsLeft, Cond.selects "OffOnTheSecond$Show" yX7_fitsLeft yX7_fitsLeft, Cond.code yX7_fitsLeft prog_9_method_4_code 1 (some (.boolean)), Cond.methodLink "OffOnTheSecond$Show" 53 yX7_there, Cond.methodLink "OffOnTheSecond$Show" 57 yX0_leastOfLeft, Cond.instanceMethod yX0_leastOfLeft, Cond.selects "OffOnTheSecond$Items" yX0_leastOfLeft yX0_leastOfLeft, Cond.code yX0_leastOfLeft prog_2_method_17_code 1 (some (.int)), Cond.methodLink "OffOnTheSecond$Items" 83 yX0_leastOfLeftFrom, Cond.instanceMethod yX0_leastOfLeftFrom, Cond.selects "OffOnTheSecond$Items" yX0_leastOfLeftFrom yX0_leastOfLeftFrom, Cond.code yX0_leastOfLeftFrom prog_2_method_19_code 5 (some (.int)), Cond.methodLink "OffOnTheSecond$Items" 89 Lib.Math.max.name]
set_option maxRecDepth 20000 in
theorem wk_700 : ∀ w ∈ wc_700, w ∈ lw_tbl := fun w h => List.mem_of_mem_drop (i := 700) (List.mem_of_mem_take (i := 25) ((show wc_700 = (lw_tbl.drop 700).take 25 from rfl) ▸ h))
def wc_725 : List Cond := [Cond.methodLink "OffOnTheSecond$Items" 92 yX0_least, Cond.methodLink "OffOnTheSecond$Show" 60 yX0_mostOfLeft, Cond.instanceMethod yX0_mostOfLeft, Cond.selects "OffOnTheSecond$Items" yX0_mostOfLeft yX0_mostOfLeft, Cond.code yX0_mostOfLeft prog_2_method_18_code 1 (some (.int)), Cond.methodLink "OffOnTheSecond$Items" 86 yX0_mostOfLeftFrom, Cond.instanceMethod yX0_mostOfLeftFrom, Cond.selects "OffOnTheSecond$Items" yX0_mostOfLeftFrom yX0_mostOfLeftFrom, Cond.code yX0_mostOfLeftFrom prog_2_method_20_code 5 (some (.int)), Cond.methodLink "OffOnTheSecond$Items" 95 yX0_most, Cond.methodLink "OffOnTheSecondLaw" 96 yX10_spare, Cond.instanceMethod yX10_spare, Cond.selects "OffOnTheSecond" yX10_spare yX10_spare, Cond.code yX10_spare prog_1_method_21_code 2 (some (.int)), Cond.methodLink "OffOnTheSecond" 221 yX0_leastOfLeft, Cond.methodLink "OffOnTheSecondLaw" 100 yX10_tuned, Cond.instanceMethod yX10_tuned, Cond.selects "OffOnTheSecond" yX10_tuned yX10_tuned, Cond.code yX10_tuned prog_1_method_22_code 2 (some (.int)), Cond.methodLink "OffOnTheSecondLaw" 104 yX10_plan, Cond.instanceMethod yX10_plan, Cond.selects "OffOnTheSecond" yX10_plan yX10_plan, Cond.code yX10_plan prog_1_method_23_code 2 (some (.int)), Cond.methodLink "OffOnTheSecond" 227 yX7_planned, Cond.instanceMethod yX7_planned]
set_option maxRecDepth 20000 in
theorem wk_725 : ∀ w ∈ wc_725, w ∈ lw_tbl := fun w h => List.mem_of_mem_drop (i := 725) (List.mem_of_mem_take (i := 25) ((show wc_725 = (lw_tbl.drop 725).take 25 from rfl) ▸ h))
def wc_750 : List Cond := [Cond.selects "OffOnTheSecond$Show" yX7_planned yX7_planned, Cond.code yX7_planned prog_9_method_8_code 7 (some (.int)), Cond.methodLink "OffOnTheSecond$Show" 93 yX0_placeOf, Cond.methodLink "OffOnTheSecond$Show" 99 yX1_at, Cond.methodLink "OffOnTheSecond$Show" 102 yX0_isLeft, Cond.methodLink "OffOnTheSecond$Show" 106 yX0_leastOfLeftFrom, Cond.methodLink "OffOnTheSecond$Show" 109 Lib.Math.min.name, Cond.methodLink "OffOnTheSecondLaw" 108 yX10_begins, Cond.instanceMethod yX10_begins, Cond.selects "OffOnTheSecond" yX10_begins yX10_begins, Cond.code yX10_begins prog_1_method_24_code 3 (some (.int)), Cond.methodLink "OffOnTheSecond" 230 yX7_earliest, Cond.instanceMethod yX7_earliest, Cond.selects "OffOnTheSecond$Show" yX7_earliest yX7_earliest, Cond.code yX7_earliest prog_9_method_9_code 4 (some (.int)), Cond.methodLink "OffOnTheSecond$Show" 112 yX0_mostOfLeftFrom, Cond.methodLink "OffOnTheSecond" 233 yX7_latest, Cond.instanceMethod yX7_latest, Cond.selects "OffOnTheSecond$Show" yX7_latest yX7_latest, Cond.code yX7_latest prog_9_method_10_code 4 (some (.int)), Cond.methodLink "OffOnTheSecondLaw" 112 yX10_drops, Cond.instanceMethod yX10_drops, Cond.selects "OffOnTheSecond" yX10_drops yX10_drops, Cond.code yX10_drops prog_1_method_25_code 2 (some (.int)), Cond.methodLink "OffOnTheSecond" 236 yX5_findsDrops]
set_option maxRecDepth 20000 in
theorem wk_750 : ∀ w ∈ wc_750, w ∈ lw_tbl := fun w h => List.mem_of_mem_drop (i := 750) (List.mem_of_mem_take (i := 25) ((show wc_750 = (lw_tbl.drop 750).take 25 from rfl) ▸ h))
def wc_775 : List Cond := [Cond.instanceMethod yX5_findsDrops, Cond.selects "OffOnTheSecond$Sets" yX5_findsDrops yX5_findsDrops, Cond.code yX5_findsDrops prog_7_method_2_code 5 (some (.boolean)), Cond.methodLink "OffOnTheSecond$Sets" 43 yX0_leftSet, Cond.methodLink "OffOnTheSecond$Sets" 52 yX0_least, Cond.methodLink "OffOnTheSecond$Sets" 56 yX1_set, Cond.methodLink "OffOnTheSecond$Sets" 60 yX5_addUp, (Jvm.Cond.privateMethod ({ cls := "OffOnTheSecond$Sets", name := "addUp", desc := "([II)V" } : Jvm.MethodName)), Cond.instanceMethod yX5_addUp, Cond.code yX5_addUp prog_7_method_4_code 7 none, Cond.methodLink "OffOnTheSecond$Sets" 83 yX1_at, Cond.methodLink "OffOnTheSecond$Sets" 64 yX0_most, Cond.methodLink "OffOnTheSecond$Sets" 67 yX7_worthOf, Cond.instanceMethod yX7_worthOf, Cond.selects "OffOnTheSecond$Show" yX7_worthOf yX7_worthOf, Cond.code yX7_worthOf prog_9_method_14_code 2 (some (.int)), Cond.methodLink "OffOnTheSecond$Show" 132 yX7_worthBy, Cond.methodLink "OffOnTheSecond$Sets" 70 yX7_there, Cond.methodLink "OffOnTheSecond$Sets" 73 yX5_findsBest, (Jvm.Cond.privateMethod ({ cls := "OffOnTheSecond$Sets", name := "findsBest", desc := "(II)Z" } : Jvm.MethodName)), Cond.instanceMethod yX5_findsBest, Cond.code yX5_findsBest prog_7_method_5_code 10 (some (.boolean)), Cond.methodLink "OffOnTheSecond$Sets" 86 yX5_sumAt, Cond.static yX5_sumAt, Cond.code yX5_sumAt prog_7_method_6_code 2 (some (.int))]
set_option maxRecDepth 20000 in
theorem wk_775 : ∀ w ∈ wc_775, w ∈ lw_tbl := fun w h => List.mem_of_mem_drop (i := 775) (List.mem_of_mem_take (i := 25) ((show wc_775 = (lw_tbl.drop 775).take 25 from rfl) ▸ h))
def wc_800 : List Cond := [Cond.methodLink "OffOnTheSecond$Sets" 90 yJ6_bitCount_0f7a4, Cond.methodLink "OffOnTheSecond" 243 yJ6_bitCount_0f7a4, Cond.methodLink "OffOnTheSecondLaw" 116 yX10_row, Cond.instanceMethod yX10_row, Cond.selects "OffOnTheSecond" yX10_row yX10_row, Cond.code yX10_row prog_1_method_26_code 3 (some (.int)), Cond.methodLink "OffOnTheSecond" 248 yX4_think, Cond.instanceMethod yX4_think, Cond.selects "OffOnTheSecond$Rows" yX4_think yX4_think, Cond.code yX4_think prog_6_method_2_code 4 none, Cond.methodLink "OffOnTheSecond$Rows" 33 yX4_askLikings, (Jvm.Cond.privateMethod ({ cls := "OffOnTheSecond$Rows", name := "askLikings", desc := "(LOffOnTheSecond$Show;)V" } : Jvm.MethodName)), Cond.instanceMethod yX4_askLikings, Cond.code yX4_askLikings prog_6_method_3_code 5 none, Cond.methodLink "OffOnTheSecond$Rows" 58 yX1_clear, Cond.methodLink "OffOnTheSecond$Rows" 70 yX0_isLeft, Cond.methodLink "OffOnTheSecond$Rows" 74 yX1_append, Cond.methodLink "OffOnTheSecond$Rows" 52 yX1_at, Cond.methodLink "OffOnTheSecond$Rows" 80 yX7_likingBy, Cond.methodLink "OffOnTheSecond$Rows" 40 yX1_set, Cond.methodLink "OffOnTheSecond$Rows" 44 yX4_bestNext, (Jvm.Cond.privateMethod ({ cls := "OffOnTheSecond$Rows", name := "bestNext", desc := "(I)I" } : Jvm.MethodName)), Cond.instanceMethod yX4_bestNext, Cond.code yX4_bestNext prog_6_method_4_code 4 (some (.int)), Cond.methodLink "OffOnTheSecond$Rows" 48 yX4_withNext]
set_option maxRecDepth 20000 in
theorem wk_800 : ∀ w ∈ wc_800, w ∈ lw_tbl := fun w h => List.mem_of_mem_drop (i := 800) (List.mem_of_mem_take (i := 25) ((show wc_800 = (lw_tbl.drop 800).take 25 from rfl) ▸ h))
def wc_825 : List Cond := [(Jvm.Cond.privateMethod ({ cls := "OffOnTheSecond$Rows", name := "withNext", desc := "(II)I" } : Jvm.MethodName)), Cond.instanceMethod yX4_withNext, Cond.code yX4_withNext prog_6_method_5_code 4 (some (.int)), Cond.methodLink "OffOnTheSecond$Rows" 84 yJ6_bitCount_0f7a4, Cond.methodLink "OffOnTheSecond$Rows" 55 yX4_choose, (Jvm.Cond.privateMethod ({ cls := "OffOnTheSecond$Rows", name := "choose", desc := "(I)V" } : Jvm.MethodName)), Cond.instanceMethod yX4_choose, Cond.code yX4_choose prog_6_method_6_code 5 none, Cond.methodLink "OffOnTheSecondLaw" 120 yX10_odds, Cond.instanceMethod yX10_odds, Cond.selects "OffOnTheSecond" yX10_odds yX10_odds, Cond.code yX10_odds prog_1_method_27_code 2 (some (.long)), Cond.methodLink "OffOnTheSecond" 258 yX2_think, Cond.instanceMethod yX2_think, Cond.selects "OffOnTheSecond$Odds" yX2_think yX2_think, Cond.code yX2_think prog_4_method_2_code 7 none, Cond.methodLink "OffOnTheSecond$Odds" 28 yX7_there, Cond.methodLink "OffOnTheSecond$Odds" 32 yX2_clearWays, (Jvm.Cond.privateMethod ({ cls := "OffOnTheSecond$Odds", name := "clearWays", desc := "()V" } : Jvm.MethodName)), Cond.instanceMethod yX2_clearWays, Cond.code yX2_clearWays prog_4_method_3_code 2 none, Cond.methodLink "OffOnTheSecond$Odds" 41 yX0_isLeft, Cond.methodLink "OffOnTheSecond$Odds" 45 yX0_isOf, Cond.methodLink "OffOnTheSecond$Odds" 53 yX1_at, Cond.methodLink "OffOnTheSecond$Odds" 62 yX2_spread]
set_option maxRecDepth 20000 in
theorem wk_825 : ∀ w ∈ wc_825, w ∈ lw_tbl := fun w h => List.mem_of_mem_drop (i := 825) (List.mem_of_mem_take (i := 25) ((show wc_825 = (lw_tbl.drop 825).take 25 from rfl) ▸ h))
def wc_850 : List Cond := [(Jvm.Cond.privateMethod ({ cls := "OffOnTheSecond$Odds", name := "spread", desc := "(I)V" } : Jvm.MethodName)), Cond.instanceMethod yX2_spread, Cond.code yX2_spread prog_4_method_4_code 4 none, Cond.methodLink "OffOnTheSecond$Odds" 66 yX0_least, Cond.methodLink "OffOnTheSecond$Odds" 69 yX0_most, Cond.methodLink "OffOnTheSecond$Odds" 72 yX2_waysWithin, (Jvm.Cond.privateMethod ({ cls := "OffOnTheSecond$Odds", name := "waysWithin", desc := "(II)J" } : Jvm.MethodName)), Cond.instanceMethod yX2_waysWithin, Cond.code yX2_waysWithin prog_4_method_5_code 6 (some (.long)), Cond.methodLink "OffOnTheSecond$Odds" 76 yX2_reduce, (Jvm.Cond.privateMethod ({ cls := "OffOnTheSecond$Odds", name := "reduce", desc := "()V" } : Jvm.MethodName)), Cond.instanceMethod yX2_reduce, Cond.code yX2_reduce prog_4_method_6_code 8 none, Cond.methodLink "OffOnTheSecondLaw" 125 yX10_sums, Cond.instanceMethod yX10_sums, Cond.selects "OffOnTheSecond" yX10_sums yX10_sums, Cond.code yX10_sums prog_1_method_28_code 5 (some (.int)), Cond.methodLink "OffOnTheSecond" 266 yX10_isSheet, Cond.static yX10_isSheet, Cond.code yX10_isSheet prog_1_method_44_code 1 (some (.boolean)), Cond.methodLink "OffOnTheSecond" 269 yX10_sheetAt, (Jvm.Cond.privateMethod ({ cls := "OffOnTheSecond", name := "sheetAt", desc := "(I)LOffOnTheSecond$Sheet;" } : Jvm.MethodName)), Cond.instanceMethod yX10_sheetAt, Cond.code yX10_sheetAt prog_1_method_43_code 2 (some (.object "OffOnTheSecond$Sheet")), Cond.methodLink "OffOnTheSecond" 273 yX10_isMissing]
set_option maxRecDepth 20000 in
theorem wk_850 : ∀ w ∈ wc_850, w ∈ lw_tbl := fun w h => List.mem_of_mem_drop (i := 850) (List.mem_of_mem_take (i := 25) ((show wc_850 = (lw_tbl.drop 850).take 25 from rfl) ▸ h))
def wc_875 : List Cond := [Cond.static yX10_isMissing, Cond.code yX10_isMissing prog_1_method_45_code 1 (some (.boolean)), Cond.methodLink "OffOnTheSecond" 280 yX5_countSums, Cond.instanceMethod yX5_countSums, Cond.selects "OffOnTheSecond$Sets" yX5_countSums yX5_countSums, Cond.code yX5_countSums prog_7_method_3_code 6 (some (.int)), Cond.methodLink "OffOnTheSecond$Sets" 79 yX1_takeFrom, Cond.methodLink "OffOnTheSecondLaw" 129 yX10_voice, Cond.instanceMethod yX10_voice, Cond.selects "OffOnTheSecond" yX10_voice yX10_voice, Cond.code yX10_voice prog_1_method_29_code 5 (some (.int)), Cond.methodLink "OffOnTheSecond" 284 yX9_hear, Cond.instanceMethod yX9_hear, Cond.selects "OffOnTheSecond$Voices" yX9_hear yX9_hear, Cond.code yX9_hear prog_11_method_2_code 5 (some (.int)), Cond.methodLink "OffOnTheSecond$Voices" 34 yX1_clear, Cond.methodLink "OffOnTheSecond$Voices" 42 yX1_at, Cond.methodLink "OffOnTheSecond$Voices" 49 yX9_speak, (Jvm.Cond.privateMethod ({ cls := "OffOnTheSecond$Voices", name := "speak", desc := "(IIII)I" } : Jvm.MethodName)), Cond.instanceMethod yX9_speak, Cond.code yX9_speak prog_11_method_3_code 6 (some (.int)), Cond.methodLink "OffOnTheSecond$Voices" 53 yX9_bodyOf, Cond.static yX9_bodyOf, Cond.code yX9_bodyOf prog_11_method_6_code 6 (some (.int)), Cond.fieldLink "OffOnTheSecond$Voices" 70 "OffOnTheSecond$Voices" "BODIES" "[I"]
set_option maxRecDepth 20000 in
theorem wk_875 : ∀ w ∈ wc_875, w ∈ lw_tbl := fun w h => List.mem_of_mem_drop (i := 875) (List.mem_of_mem_take (i := 25) ((show wc_875 = (lw_tbl.drop 875).take 25 from rfl) ▸ h))
def wc_900 : List Cond := [(Jvm.Cond.laysStatic "OffOnTheSecond$Voices" "BODIES" "[I"), Cond.methodLink "OffOnTheSecond$Voices" 67 yX0_above, Cond.methodLink "OffOnTheSecond$Voices" 57 yX1_append, Cond.methodLink "OffOnTheSecond$Voices" 60 yX9_answerOf, (Jvm.Cond.privateMethod ({ cls := "OffOnTheSecond$Voices", name := "answerOf", desc := "(III)I" } : Jvm.MethodName)), Cond.instanceMethod yX9_answerOf, Cond.code yX9_answerOf prog_11_method_4_code 4 (some (.int)), Cond.methodLink "OffOnTheSecond$Voices" 64 yX9_cutUp, (Jvm.Cond.privateMethod ({ cls := "OffOnTheSecond$Voices", name := "cutUp", desc := "(I)I" } : Jvm.MethodName)), Cond.instanceMethod yX9_cutUp, Cond.code yX9_cutUp prog_11_method_5_code 2 (some (.int)), Cond.methodLink "OffOnTheSecondLaw" 134 yX10_body, Cond.instanceMethod yX10_body, Cond.selects "OffOnTheSecond" yX10_body yX10_body, Cond.code yX10_body prog_1_method_30_code 2 (some (.int)), Cond.methodLink "OffOnTheSecondLaw" 138 yX10_sheet, Cond.instanceMethod yX10_sheet, Cond.selects "OffOnTheSecond" yX10_sheet yX10_sheet, Cond.code yX10_sheet prog_1_method_31_code 5 (some (.int)), Cond.methodLink "OffOnTheSecond" 295 yX6_lay, Cond.instanceMethod yX6_lay, Cond.selects "OffOnTheSecond$Sheet" yX6_lay yX6_lay, Cond.code yX6_lay prog_8_method_2_code 4 none, Cond.methodLink "OffOnTheSecond$Sheet" 24 yX1_clear, Cond.methodLink "OffOnTheSecond$Sheet" 27 yX1_append]
set_option maxRecDepth 20000 in
theorem wk_900 : ∀ w ∈ wc_900, w ∈ lw_tbl := fun w h => List.mem_of_mem_drop (i := 900) (List.mem_of_mem_take (i := 25) ((show wc_900 = (lw_tbl.drop 900).take 25 from rfl) ▸ h))
def wc_925 : List Cond := [Cond.methodLink "OffOnTheSecondLaw" 142 yX10_put, Cond.instanceMethod yX10_put, Cond.selects "OffOnTheSecond" yX10_put yX10_put, Cond.code yX10_put prog_1_method_32_code 5 (some (.int)), Cond.methodLink "OffOnTheSecond" 298 yX6_write, Cond.instanceMethod yX6_write, Cond.selects "OffOnTheSecond$Sheet" yX6_write yX6_write, Cond.code yX6_write prog_8_method_3_code 3 none, Cond.methodLink "OffOnTheSecond$Sheet" 30 yX1_set, Cond.methodLink "OffOnTheSecondLaw" 146 yX10_move, Cond.instanceMethod yX10_move, Cond.selects "OffOnTheSecond" yX10_move yX10_move, Cond.code yX10_move prog_1_method_33_code 8 (some (.int)), Cond.methodLink "OffOnTheSecond" 304 yX1_spans, Cond.instanceMethod yX1_spans, Cond.selects "OffOnTheSecond$Line" yX1_spans yX1_spans, Cond.code yX1_spans prog_3_method_3_code 3 (some (.boolean)), Cond.methodLink "OffOnTheSecond" 311 arraycopyName, Cond.static arraycopyName, Cond.native arraycopyName, Cond.methodLink "OffOnTheSecondLaw" 151 yX10_truths, Cond.instanceMethod yX10_truths, Cond.selects "OffOnTheSecond" yX10_truths yX10_truths, Cond.code yX10_truths prog_1_method_34_code 5 (some (.int)), Cond.methodLink "OffOnTheSecondLaw" 155 yX10_judge]
set_option maxRecDepth 20000 in
theorem wk_925 : ∀ w ∈ wc_925, w ∈ lw_tbl := fun w h => List.mem_of_mem_drop (i := 925) (List.mem_of_mem_take (i := 25) ((show wc_925 = (lw_tbl.drop 925).take 25 from rfl) ▸ h))
def wc_950 : List Cond := [Cond.instanceMethod yX10_judge, Cond.selects "OffOnTheSecond" yX10_judge yX10_judge, Cond.code yX10_judge prog_1_method_35_code 3 (some (.int)), Cond.methodLink "OffOnTheSecond" 317 yX0_howManyWithin, Cond.instanceMethod yX0_howManyWithin, Cond.selects "OffOnTheSecond$Items" yX0_howManyWithin yX0_howManyWithin, Cond.code yX0_howManyWithin prog_2_method_22_code 6 (some (.int)), Cond.methodLink "OffOnTheSecondLaw" 159 yX10_image, Cond.instanceMethod yX10_image, Cond.selects "OffOnTheSecond" yX10_image yX10_image, Cond.code yX10_image prog_1_method_36_code 1 (some (.int)), Cond.methodLink "OffOnTheSecond" 321 yX7_takeFrom, Cond.instanceMethod yX7_takeFrom, Cond.selects "OffOnTheSecond$Show" yX7_takeFrom yX7_takeFrom, Cond.code yX7_takeFrom prog_9_method_15_code 2 none, Cond.methodLink "OffOnTheSecond$Show" 135 yX0_takeFrom, Cond.instanceMethod yX0_takeFrom, Cond.selects "OffOnTheSecond$Items" yX0_takeFrom yX0_takeFrom, Cond.code yX0_takeFrom prog_2_method_24_code 2 none, Cond.methodLink "OffOnTheSecond$Items" 99 yX1_takeFrom, Cond.methodLink "OffOnTheSecond$Show" 139 yX1_takeFrom, Cond.methodLink "OffOnTheSecond$Show" 142 yX8_takeFrom, Cond.instanceMethod yX8_takeFrom, Cond.selects "OffOnTheSecond$Text" yX8_takeFrom yX8_takeFrom, Cond.code yX8_takeFrom prog_10_method_6_code 2 none]
set_option maxRecDepth 20000 in
theorem wk_950 : ∀ w ∈ wc_950, w ∈ lw_tbl := fun w h => List.mem_of_mem_drop (i := 950) (List.mem_of_mem_take (i := 25) ((show wc_950 = (lw_tbl.drop 950).take 25 from rfl) ▸ h))
def wc_975 : List Cond := [Cond.methodLink "OffOnTheSecondLaw" 163 yX10_restore, Cond.instanceMethod yX10_restore, Cond.selects "OffOnTheSecond" yX10_restore yX10_restore, Cond.code yX10_restore prog_1_method_37_code 1 (some (.int)), Cond.methodLink "OffOnTheSecondLaw" 167 yX10_tell, Cond.instanceMethod yX10_tell, Cond.selects "OffOnTheSecond" yX10_tell yX10_tell, Cond.code yX10_tell prog_1_method_38_code 2 (some (.int)), Cond.methodLink "OffOnTheSecondLaw" 171 yX10_check, Cond.instanceMethod yX10_check, Cond.selects "OffOnTheSecond" yX10_check yX10_check, Cond.code yX10_check prog_1_method_39_code 2 (some (.int)), Cond.methodLink "OffOnTheSecond" 327 yX0_firstUnlike, Cond.instanceMethod yX0_firstUnlike, Cond.selects "OffOnTheSecond$Items" yX0_firstUnlike yX0_firstUnlike, Cond.code yX0_firstUnlike prog_2_method_23_code 3 (some (.int)), Cond.methodLink "OffOnTheSecondLaw" 175 yX10_count, Cond.instanceMethod yX10_count, Cond.selects "OffOnTheSecond" yX10_count yX10_count, Cond.code yX10_count prog_1_method_40_code 2 (some (.int)), Cond.methodLink "OffOnTheSecond" 333 yX0_mostOfLeft, Cond.methodLink "OffOnTheSecondLaw" 179 yX10_told, Cond.instanceMethod yX10_told, Cond.selects "OffOnTheSecond" yX10_told yX10_told, Cond.code yX10_told prog_1_method_41_code 2 (some (.int))]
set_option maxRecDepth 20000 in
theorem wk_975 : ∀ w ∈ wc_975, w ∈ lw_tbl := fun w h => List.mem_of_mem_drop (i := 975) (List.mem_of_mem_take (i := 25) ((show wc_975 = (lw_tbl.drop 975).take 25 from rfl) ▸ h))
def wc_1000 : List Cond := [Cond.classLink "OffOnTheSecondLaw" 10 "OffOnTheSecondModel", Cond.instantiable "OffOnTheSecondModel" 25, Cond.methodLink "OffOnTheSecondLaw" 12 yX11_init, Cond.instanceMethod yX11_init, Cond.code yX11_init prog_13_method_1_code 1 none, Cond.methodLink "OffOnTheSecondModel" 1 Lib.objectInit, Cond.fieldLink "OffOnTheSecondModel" 7 "OffOnTheSecondModel" "s" "[I", Cond.fieldLink "OffOnTheSecondModel" 13 "OffOnTheSecondModel" "kept" "[I", Cond.fieldLink "OffOnTheSecondModel" 268 "OffOnTheSecondModel" "images" "I", Cond.fieldLink "OffOnTheSecondModel" 16 "OffOnTheSecondModel" "errors" "[I", Cond.fieldLink "OffOnTheSecondModel" 67 "OffOnTheSecondModel" "at" "I", Cond.fieldLink "OffOnTheSecondModel" 101 "OffOnTheSecondModel" "open" "I", Cond.fieldLink "OffOnTheSecondModel" 74 "OffOnTheSecondModel" "steps" "I", Cond.fieldLink "OffOnTheSecondModel" 71 "OffOnTheSecondModel" "use" "I", Cond.fieldLink "OffOnTheSecondModel" 19 "OffOnTheSecondModel" "step" "[I", Cond.fieldLink "OffOnTheSecondModel" 22 "OffOnTheSecondModel" "named" "[I", Cond.fieldLink "OffOnTheSecondModel" 25 "OffOnTheSecondModel" "pile" "[I", Cond.fieldLink "OffOnTheSecondModel" 28 "OffOnTheSecondModel" "row1" "[I", Cond.fieldLink "OffOnTheSecondModel" 31 "OffOnTheSecondModel" "best1" "[I", Cond.fieldLink "OffOnTheSecondModel" 207 "OffOnTheSecondModel" "most1" "I", Cond.fieldLink "OffOnTheSecondModel" 203 "OffOnTheSecondModel" "isBest" "Z", Cond.fieldLink "OffOnTheSecondModel" 34 "OffOnTheSecondModel" "ways" "[J", Cond.fieldLink "OffOnTheSecondModel" 38 "OffOnTheSecondModel" "waysThen" "[J", Cond.fieldLink "OffOnTheSecondModel" 231 "OffOnTheSecondModel" "traced" "I", Cond.fieldLink "OffOnTheSecondModel" 41 "OffOnTheSecondModel" "trace" "[I"]
set_option maxRecDepth 20000 in
theorem wk_1000 : ∀ w ∈ wc_1000, w ∈ lw_tbl := fun w h => List.mem_of_mem_drop (i := 1000) (List.mem_of_mem_take (i := 25) ((show wc_1000 = (lw_tbl.drop 1000).take 25 from rfl) ▸ h))
def wc_1025 : List Cond := [Cond.fieldLink "OffOnTheSecondModel" 234 "OffOnTheSecondModel" "speaks" "I", Cond.fieldLink "OffOnTheSecondModel" 255 "OffOnTheSecondModel" "isParted" "Z", Cond.fieldLink "OffOnTheSecondModel" 44 "OffOnTheSecondModel" "bits" "[I", Cond.fieldLink "OffOnTheSecondModel" 47 "OffOnTheSecondModel" "sizes" "[I", Cond.fieldLink "OffOnTheSecondModel" 50 "OffOnTheSecondModel" "number" "[I", Cond.fieldLink "OffOnTheSecondModel" 53 "OffOnTheSecondModel" "aside" "[I", (Jvm.Cond.laysFinal "OffOnTheSecondModel" "OffOnTheSecondModel" "s" "[I"), (Jvm.Cond.soleField "OffOnTheSecondModel" "s"), (Jvm.Cond.laysFinal "OffOnTheSecondModel" "OffOnTheSecondModel" "kept" "[I"), (Jvm.Cond.soleField "OffOnTheSecondModel" "kept"), (Jvm.Cond.lays "OffOnTheSecondModel" "OffOnTheSecondModel" "images" "I"), (Jvm.Cond.soleField "OffOnTheSecondModel" "images"), (Jvm.Cond.laysFinal "OffOnTheSecondModel" "OffOnTheSecondModel" "errors" "[I"), (Jvm.Cond.soleField "OffOnTheSecondModel" "errors"), (Jvm.Cond.lays "OffOnTheSecondModel" "OffOnTheSecondModel" "at" "I"), (Jvm.Cond.soleField "OffOnTheSecondModel" "at"), (Jvm.Cond.lays "OffOnTheSecondModel" "OffOnTheSecondModel" "open" "I"), (Jvm.Cond.soleField "OffOnTheSecondModel" "open"), (Jvm.Cond.lays "OffOnTheSecondModel" "OffOnTheSecondModel" "steps" "I"), (Jvm.Cond.soleField "OffOnTheSecondModel" "steps"), (Jvm.Cond.lays "OffOnTheSecondModel" "OffOnTheSecondModel" "use" "I"), (Jvm.Cond.soleField "OffOnTheSecondModel" "use"), (Jvm.Cond.laysFinal "OffOnTheSecondModel" "OffOnTheSecondModel" "step" "[I"), (Jvm.Cond.soleField "OffOnTheSecondModel" "step"), (Jvm.Cond.laysFinal "OffOnTheSecondModel" "OffOnTheSecondModel" "named" "[I")]
set_option maxRecDepth 20000 in
theorem wk_1025 : ∀ w ∈ wc_1025, w ∈ lw_tbl := fun w h => List.mem_of_mem_drop (i := 1025) (List.mem_of_mem_take (i := 25) ((show wc_1025 = (lw_tbl.drop 1025).take 25 from rfl) ▸ h))
def wc_1050 : List Cond := [(Jvm.Cond.soleField "OffOnTheSecondModel" "named"), (Jvm.Cond.laysFinal "OffOnTheSecondModel" "OffOnTheSecondModel" "pile" "[I"), (Jvm.Cond.soleField "OffOnTheSecondModel" "pile"), (Jvm.Cond.laysFinal "OffOnTheSecondModel" "OffOnTheSecondModel" "row1" "[I"), (Jvm.Cond.soleField "OffOnTheSecondModel" "row1"), (Jvm.Cond.laysFinal "OffOnTheSecondModel" "OffOnTheSecondModel" "best1" "[I"), (Jvm.Cond.soleField "OffOnTheSecondModel" "best1"), (Jvm.Cond.lays "OffOnTheSecondModel" "OffOnTheSecondModel" "most1" "I"), (Jvm.Cond.soleField "OffOnTheSecondModel" "most1"), (Jvm.Cond.lays "OffOnTheSecondModel" "OffOnTheSecondModel" "isBest" "Z"), (Jvm.Cond.soleField "OffOnTheSecondModel" "isBest"), (Jvm.Cond.laysFinal "OffOnTheSecondModel" "OffOnTheSecondModel" "ways" "[J"), (Jvm.Cond.soleField "OffOnTheSecondModel" "ways"), (Jvm.Cond.laysFinal "OffOnTheSecondModel" "OffOnTheSecondModel" "waysThen" "[J"), (Jvm.Cond.soleField "OffOnTheSecondModel" "waysThen"), (Jvm.Cond.lays "OffOnTheSecondModel" "OffOnTheSecondModel" "traced" "I"), (Jvm.Cond.soleField "OffOnTheSecondModel" "traced"), (Jvm.Cond.laysFinal "OffOnTheSecondModel" "OffOnTheSecondModel" "trace" "[I"), (Jvm.Cond.soleField "OffOnTheSecondModel" "trace"), (Jvm.Cond.lays "OffOnTheSecondModel" "OffOnTheSecondModel" "speaks" "I"), (Jvm.Cond.soleField "OffOnTheSecondModel" "speaks"), (Jvm.Cond.lays "OffOnTheSecondModel" "OffOnTheSecondModel" "isParted" "Z"), (Jvm.Cond.soleField "OffOnTheSecondModel" "isParted"), (Jvm.Cond.laysFinal "OffOnTheSecondModel" "OffOnTheSecondModel" "bits" "[I"), (Jvm.Cond.soleField "OffOnTheSecondModel" "bits")]
set_option maxRecDepth 20000 in
theorem wk_1050 : ∀ w ∈ wc_1050, w ∈ lw_tbl := fun w h => List.mem_of_mem_drop (i := 1050) (List.mem_of_mem_take (i := 25) ((show wc_1050 = (lw_tbl.drop 1050).take 25 from rfl) ▸ h))
def wc_1075 : List Cond := [(Jvm.Cond.laysFinal "OffOnTheSecondModel" "OffOnTheSecondModel" "sizes" "[I"), (Jvm.Cond.soleField "OffOnTheSecondModel" "sizes"), (Jvm.Cond.laysFinal "OffOnTheSecondModel" "OffOnTheSecondModel" "number" "[I"), (Jvm.Cond.soleField "OffOnTheSecondModel" "number"), (Jvm.Cond.laysFinal "OffOnTheSecondModel" "OffOnTheSecondModel" "aside" "[I"), (Jvm.Cond.soleField "OffOnTheSecondModel" "aside"), (Jvm.Cond.superclass "OffOnTheSecondModel" "java/lang/Object"), Cond.methodLink "OffOnTheSecondLaw" 48 yX11_feed, Cond.instanceMethod yX11_feed, Cond.selects "OffOnTheSecondModel" yX11_feed yX11_feed, Cond.code yX11_feed prog_13_method_10_code 5 (some (.int)), Cond.methodLink "OffOnTheSecondModel" 57 yX11_in, Cond.static yX11_in, Cond.code yX11_in prog_13_method_3_code 3 (some (.boolean)), Cond.methodLink "OffOnTheSecondModel" 61 yX11_error, (Jvm.Cond.privateMethod ({ cls := "OffOnTheSecondModel", name := "error", desc := "(I)I" } : Jvm.MethodName)), Cond.instanceMethod yX11_error, Cond.code yX11_error prog_13_method_2_code 2 (some (.int)), Cond.constant "OffOnTheSecondModel" 56 (-1000000000), Cond.constantLong "OffOnTheSecondModel" 65 (255), Cond.methodLink "OffOnTheSecondLaw" 53 yX11_text, Cond.instanceMethod yX11_text, Cond.selects "OffOnTheSecondModel" yX11_text yX11_text, Cond.code yX11_text prog_13_method_22_code 5 (some (.int)), Cond.methodLink "OffOnTheSecondModel" 111 yX11_whole]
set_option maxRecDepth 20000 in
theorem wk_1075 : ∀ w ∈ wc_1075, w ∈ lw_tbl := fun w h => List.mem_of_mem_drop (i := 1075) (List.mem_of_mem_take (i := 25) ((show wc_1075 = (lw_tbl.drop 1075).take 25 from rfl) ▸ h))
def wc_1100 : List Cond := [(Jvm.Cond.privateMethod ({ cls := "OffOnTheSecondModel", name := "whole", desc := "()Z" } : Jvm.MethodName)), Cond.instanceMethod yX11_whole, Cond.code yX11_whole prog_13_method_14_code 1 (some (.boolean)), Cond.methodLink "OffOnTheSecondModel" 77 yX11_both, (Jvm.Cond.privateMethod ({ cls := "OffOnTheSecondModel", name := "both", desc := "()Z" } : Jvm.MethodName)), Cond.instanceMethod yX11_both, Cond.code yX11_both prog_13_method_15_code 1 (some (.boolean)), Cond.methodLink "OffOnTheSecondModel" 89 yX11_compared, (Jvm.Cond.privateMethod ({ cls := "OffOnTheSecondModel", name := "compared", desc := "()Z" } : Jvm.MethodName)), Cond.instanceMethod yX11_compared, Cond.code yX11_compared prog_13_method_16_code 2 (some (.boolean)), Cond.methodLink "OffOnTheSecondModel" 92 yX11_sum, (Jvm.Cond.privateMethod ({ cls := "OffOnTheSecondModel", name := "sum", desc := "()Z" } : Jvm.MethodName)), Cond.instanceMethod yX11_sum, Cond.code yX11_sum prog_13_method_17_code 2 (some (.boolean)), Cond.methodLink "OffOnTheSecondModel" 95 yX11_product, (Jvm.Cond.privateMethod ({ cls := "OffOnTheSecondModel", name := "product", desc := "()Z" } : Jvm.MethodName)), Cond.instanceMethod yX11_product, Cond.code yX11_product prog_13_method_18_code 2 (some (.boolean)), Cond.methodLink "OffOnTheSecondModel" 98 yX11_one, (Jvm.Cond.privateMethod ({ cls := "OffOnTheSecondModel", name := "one", desc := "()Z" } : Jvm.MethodName)), Cond.instanceMethod yX11_one, Cond.code yX11_one prog_13_method_20_code 4 (some (.boolean)), Cond.methodLink "OffOnTheSecondModel" 81 yX11_look, (Jvm.Cond.privateMethod ({ cls := "OffOnTheSecondModel", name := "look", desc := "()I" } : Jvm.MethodName))]
set_option maxRecDepth 20000 in
theorem wk_1100 : ∀ w ∈ wc_1100, w ∈ lw_tbl := fun w h => List.mem_of_mem_drop (i := 1100) (List.mem_of_mem_take (i := 25) ((show wc_1100 = (lw_tbl.drop 1100).take 25 from rfl) ▸ h))
def wc_1125 : List Cond := [Cond.instanceMethod yX11_look, Cond.code yX11_look prog_13_method_11_code 1 (some (.int)), Cond.methodLink "OffOnTheSecondModel" 104 yX11_isName, (Jvm.Cond.privateMethod ({ cls := "OffOnTheSecondModel", name := "isName", desc := "(I)Z" } : Jvm.MethodName)), Cond.instanceMethod yX11_isName, Cond.code yX11_isName prog_13_method_12_code 2 (some (.boolean)), Cond.methodLink "OffOnTheSecondModel" 85 yX11_step1, (Jvm.Cond.privateMethod ({ cls := "OffOnTheSecondModel", name := "step1", desc := "(II)V" } : Jvm.MethodName)), Cond.instanceMethod yX11_step1, Cond.code yX11_step1 prog_13_method_13_code 3 none, Cond.methodLink "OffOnTheSecondModel" 108 yX11_opens, (Jvm.Cond.privateMethod ({ cls := "OffOnTheSecondModel", name := "opens", desc := "()Z" } : Jvm.MethodName)), Cond.instanceMethod yX11_opens, Cond.code yX11_opens prog_13_method_19_code 1 (some (.boolean)), Cond.methodLink "OffOnTheSecondLaw" 57 yX11_untell, Cond.instanceMethod yX11_untell, Cond.selects "OffOnTheSecondModel" yX11_untell yX11_untell, Cond.code yX11_untell prog_13_method_23_code 3 (some (.int)), Cond.methodLink "OffOnTheSecondModel" 114 yX11_hasText, (Jvm.Cond.privateMethod ({ cls := "OffOnTheSecondModel", name := "hasText", desc := "(I)Z" } : Jvm.MethodName)), Cond.instanceMethod yX11_hasText, Cond.code yX11_hasText prog_13_method_21_code 2 (some (.boolean)), Cond.methodLink "OffOnTheSecondLaw" 17 yX11_item, Cond.instanceMethod yX11_item, Cond.selects "OffOnTheSecondModel" yX11_item yX11_item]
set_option maxRecDepth 20000 in
theorem wk_1125 : ∀ w ∈ wc_1125, w ∈ lw_tbl := fun w h => List.mem_of_mem_drop (i := 1125) (List.mem_of_mem_take (i := 25) ((show wc_1125 = (lw_tbl.drop 1125).take 25 from rfl) ▸ h))
def wc_1150 : List Cond := [Cond.code yX11_item prog_13_method_38_code 4 (some (.int)), Cond.methodLink "OffOnTheSecondModel" 143 yX11_isKind, Cond.static yX11_isKind, Cond.code yX11_isKind prog_13_method_37_code 1 (some (.boolean)), Cond.methodLink "OffOnTheSecondModel" 146 yX11_lays1, (Jvm.Cond.privateMethod ({ cls := "OffOnTheSecondModel", name := "lays1", desc := "(III)V" } : Jvm.MethodName)), Cond.instanceMethod yX11_lays1, Cond.code yX11_lays1 prog_13_method_8_code 4 none, Cond.methodLink "OffOnTheSecondLaw" 21 yX11_itemIs, Cond.instanceMethod yX11_itemIs, Cond.selects "OffOnTheSecondModel" yX11_itemIs yX11_itemIs, Cond.code yX11_itemIs prog_13_method_39_code 3 (some (.int)), Cond.methodLink "OffOnTheSecondModel" 150 yX11_isItem, (Jvm.Cond.privateMethod ({ cls := "OffOnTheSecondModel", name := "isItem", desc := "(I)Z" } : Jvm.MethodName)), Cond.instanceMethod yX11_isItem, Cond.code yX11_isItem prog_13_method_6_code 2 (some (.boolean)), Cond.methodLink "OffOnTheSecondModel" 128 yX11_leastOf, (Jvm.Cond.privateMethod ({ cls := "OffOnTheSecondModel", name := "leastOf", desc := "(I)I" } : Jvm.MethodName)), Cond.instanceMethod yX11_leastOf, Cond.code yX11_leastOf prog_13_method_26_code 4 (some (.int)), Cond.methodLink "OffOnTheSecondModel" 121 yX11_its, (Jvm.Cond.privateMethod ({ cls := "OffOnTheSecondModel", name := "its", desc := "(II)I" } : Jvm.MethodName)), Cond.instanceMethod yX11_its, Cond.code yX11_its prog_13_method_7_code 3 (some (.int)), Cond.methodLink "OffOnTheSecondModel" 131 yX11_mostOf]
set_option maxRecDepth 20000 in
theorem wk_1150 : ∀ w ∈ wc_1150, w ∈ lw_tbl := fun w h => List.mem_of_mem_drop (i := 1150) (List.mem_of_mem_take (i := 25) ((show wc_1150 = (lw_tbl.drop 1150).take 25 from rfl) ▸ h))
def wc_1175 : List Cond := [(Jvm.Cond.privateMethod ({ cls := "OffOnTheSecondModel", name := "mostOf", desc := "(I)I" } : Jvm.MethodName)), Cond.instanceMethod yX11_mostOf, Cond.code yX11_mostOf prog_13_method_27_code 4 (some (.int)), Cond.methodLink "OffOnTheSecondLaw" 25 yX11_become, Cond.instanceMethod yX11_become, Cond.selects "OffOnTheSecondModel" yX11_become yX11_become, Cond.code yX11_become prog_13_method_40_code 3 (some (.int)), Cond.methodLink "OffOnTheSecondModel" 153 yX11_change1, (Jvm.Cond.privateMethod ({ cls := "OffOnTheSecondModel", name := "change1", desc := "(II)I" } : Jvm.MethodName)), Cond.instanceMethod yX11_change1, Cond.code yX11_change1 prog_13_method_9_code 4 (some (.int)), Cond.methodLink "OffOnTheSecondLaw" 29 yX11_as, Cond.instanceMethod yX11_as, Cond.selects "OffOnTheSecondModel" yX11_as yX11_as, Cond.code yX11_as prog_13_method_41_code 4 (some (.int)), Cond.methodLink "OffOnTheSecondModel" 156 yX11_above, Cond.static yX11_above, Cond.code yX11_above prog_13_method_75_code 1 (some (.int)), Cond.methodLink "OffOnTheSecondLaw" 33 yX11_truth, Cond.instanceMethod yX11_truth, Cond.selects "OffOnTheSecondModel" yX11_truth yX11_truth, Cond.code yX11_truth prog_13_method_42_code 3 (some (.int)), Cond.methodLink "OffOnTheSecondLaw" 37 yX11_shift, Cond.instanceMethod yX11_shift, Cond.selects "OffOnTheSecondModel" yX11_shift yX11_shift]
set_option maxRecDepth 20000 in
theorem wk_1175 : ∀ w ∈ wc_1175, w ∈ lw_tbl := fun w h => List.mem_of_mem_drop (i := 1175) (List.mem_of_mem_take (i := 25) ((show wc_1175 = (lw_tbl.drop 1175).take 25 from rfl) ▸ h))
def wc_1200 : List Cond := [Cond.code yX11_shift prog_13_method_43_code 7 (some (.int)), Cond.methodLink "OffOnTheSecondModel" 125 yX11_isLeft, (Jvm.Cond.privateMethod ({ cls := "OffOnTheSecondModel", name := "isLeft", desc := "(I)Z" } : Jvm.MethodName)), Cond.instanceMethod yX11_isLeft, Cond.code yX11_isLeft prog_13_method_28_code 2 (some (.boolean)), Cond.methodLink "OffOnTheSecondLaw" 41 yX11_clock, Cond.instanceMethod yX11_clock, Cond.selects "OffOnTheSecondModel" yX11_clock yX11_clock, Cond.code yX11_clock prog_13_method_44_code 3 (some (.int)), Cond.methodLink "OffOnTheSecondLaw" 62 yX11_law, Cond.instanceMethod yX11_law, Cond.selects "OffOnTheSecondModel" yX11_law yX11_law, Cond.code yX11_law prog_13_method_47_code 5 (some (.int)), Cond.methodLink "OffOnTheSecondModel" 165 yX11_worthTold, (Jvm.Cond.privateMethod ({ cls := "OffOnTheSecondModel", name := "worthTold", desc := "(III)I" } : Jvm.MethodName)), Cond.instanceMethod yX11_worthTold, Cond.code yX11_worthTold prog_13_method_45_code 4 (some (.int)), Cond.methodLink "OffOnTheSecondModel" 159 yX11_worked, (Jvm.Cond.privateMethod ({ cls := "OffOnTheSecondModel", name := "worked", desc := "(I)I" } : Jvm.MethodName)), Cond.instanceMethod yX11_worked, Cond.code yX11_worked prog_13_method_25_code 7 (some (.int)), Cond.methodLink "OffOnTheSecondModel" 117 yX11_joined, Cond.static yX11_joined, Cond.code yX11_joined prog_13_method_24_code 3 (some (.int)), Cond.methodLink "OffOnTheSecondModel" 162 yX11_held]
set_option maxRecDepth 20000 in
theorem wk_1200 : ∀ w ∈ wc_1200, w ∈ lw_tbl := fun w h => List.mem_of_mem_drop (i := 1200) (List.mem_of_mem_take (i := 25) ((show wc_1200 = (lw_tbl.drop 1200).take 25 from rfl) ▸ h))
def wc_1225 : List Cond := [Cond.static yX11_held, Cond.code yX11_held prog_13_method_4_code 3 (some (.int)), Cond.methodLink "OffOnTheSecondModel" 168 yX11_likedTold, (Jvm.Cond.privateMethod ({ cls := "OffOnTheSecondModel", name := "likedTold", desc := "(III)I" } : Jvm.MethodName)), Cond.instanceMethod yX11_likedTold, Cond.code yX11_likedTold prog_13_method_46_code 4 (some (.int)), Cond.methodLink "OffOnTheSecondLaw" 66 yX11_air, Cond.instanceMethod yX11_air, Cond.selects "OffOnTheSecondModel" yX11_air yX11_air, Cond.code yX11_air prog_13_method_49_code 3 (some (.int)), Cond.methodLink "OffOnTheSecondModel" 171 yX11_onNow, (Jvm.Cond.privateMethod ({ cls := "OffOnTheSecondModel", name := "onNow", desc := "()I" } : Jvm.MethodName)), Cond.instanceMethod yX11_onNow, Cond.code yX11_onNow prog_13_method_36_code 2 (some (.int)), Cond.methodLink "OffOnTheSecondModel" 140 yX11_itemAt, (Jvm.Cond.privateMethod ({ cls := "OffOnTheSecondModel", name := "itemAt", desc := "(I)I" } : Jvm.MethodName)), Cond.instanceMethod yX11_itemAt, Cond.code yX11_itemAt prog_13_method_35_code 4 (some (.int)), Cond.methodLink "OffOnTheSecondModel" 174 yX11_isDone, (Jvm.Cond.privateMethod ({ cls := "OffOnTheSecondModel", name := "isDone", desc := "(II)V" } : Jvm.MethodName)), Cond.instanceMethod yX11_isDone, Cond.code yX11_isDone prog_13_method_48_code 3 none, Cond.methodLink "OffOnTheSecondLaw" 70 yX11_breaks, Cond.instanceMethod yX11_breaks, Cond.selects "OffOnTheSecondModel" yX11_breaks yX11_breaks]
set_option maxRecDepth 20000 in
theorem wk_1225 : ∀ w ∈ wc_1225, w ∈ lw_tbl := fun w h => List.mem_of_mem_drop (i := 1225) (List.mem_of_mem_take (i := 25) ((show wc_1225 = (lw_tbl.drop 1225).take 25 from rfl) ▸ h))
def wc_1250 : List Cond := [Cond.code yX11_breaks prog_13_method_50_code 2 (some (.int)), Cond.methodLink "OffOnTheSecondLaw" 74 yX11_drop, Cond.instanceMethod yX11_drop, Cond.selects "OffOnTheSecondModel" yX11_drop yX11_drop, Cond.code yX11_drop prog_13_method_51_code 2 (some (.int)), Cond.methodLink "OffOnTheSecondModel" 177 yX11_leftSet, (Jvm.Cond.privateMethod ({ cls := "OffOnTheSecondModel", name := "leftSet", desc := "()I" } : Jvm.MethodName)), Cond.instanceMethod yX11_leftSet, Cond.code yX11_leftSet prog_13_method_29_code 3 (some (.int)), Cond.methodLink "OffOnTheSecondModel" 180 yX11_bitsOf, Cond.static yX11_bitsOf, Cond.code yX11_bitsOf prog_13_method_30_code 3 (some (.int)), Cond.methodLink "OffOnTheSecondLaw" 78 yX11_loose, Cond.instanceMethod yX11_loose, Cond.selects "OffOnTheSecondModel" yX11_loose yX11_loose, Cond.code yX11_loose prog_13_method_53_code 6 (some (.int)), Cond.methodLink "OffOnTheSecondModel" 184 yX11_draw, (Jvm.Cond.privateMethod ({ cls := "OffOnTheSecondModel", name := "draw", desc := "()I" } : Jvm.MethodName)), Cond.instanceMethod yX11_draw, Cond.code yX11_draw prog_13_method_52_code 1 (some (.int)), Cond.constant "OffOnTheSecondModel" 183 (1103515245), Cond.methodLink "OffOnTheSecondLaw" 83 yX11_anew, Cond.instanceMethod yX11_anew, Cond.selects "OffOnTheSecondModel" yX11_anew yX11_anew, Cond.code yX11_anew prog_13_method_54_code 2 (some (.int))]
set_option maxRecDepth 20000 in
theorem wk_1250 : ∀ w ∈ wc_1250, w ∈ lw_tbl := fun w h => List.mem_of_mem_drop (i := 1250) (List.mem_of_mem_take (i := 25) ((show wc_1250 = (lw_tbl.drop 1250).take 25 from rfl) ▸ h))
def wc_1275 : List Cond := [Cond.methodLink "OffOnTheSecondLaw" 87 yX11_seed, Cond.instanceMethod yX11_seed, Cond.selects "OffOnTheSecondModel" yX11_seed yX11_seed, Cond.code yX11_seed prog_13_method_55_code 2 (some (.int)), Cond.methodLink "OffOnTheSecondLaw" 91 yX11_over, Cond.instanceMethod yX11_over, Cond.selects "OffOnTheSecondModel" yX11_over yX11_over, Cond.code yX11_over prog_13_method_56_code 3 (some (.int)), Cond.methodLink "OffOnTheSecondLaw" 95 yX11_fits, Cond.instanceMethod yX11_fits, Cond.selects "OffOnTheSecondModel" yX11_fits yX11_fits, Cond.code yX11_fits prog_13_method_57_code 1 (some (.int)), Cond.methodLink "OffOnTheSecondModel" 187 yX11_thereIs, (Jvm.Cond.privateMethod ({ cls := "OffOnTheSecondModel", name := "thereIs", desc := "()I" } : Jvm.MethodName)), Cond.instanceMethod yX11_thereIs, Cond.code yX11_thereIs prog_13_method_33_code 1 (some (.int)), Cond.methodLink "OffOnTheSecondModel" 190 yX11_fitsSet, (Jvm.Cond.privateMethod ({ cls := "OffOnTheSecondModel", name := "fitsSet", desc := "(II)Z" } : Jvm.MethodName)), Cond.instanceMethod yX11_fitsSet, Cond.code yX11_fitsSet prog_13_method_34_code 3 (some (.boolean)), Cond.methodLink "OffOnTheSecondModel" 134 yX11_leastAll, (Jvm.Cond.privateMethod ({ cls := "OffOnTheSecondModel", name := "leastAll", desc := "(I)I" } : Jvm.MethodName)), Cond.instanceMethod yX11_leastAll, Cond.code yX11_leastAll prog_13_method_31_code 4 (some (.int)), Cond.methodLink "OffOnTheSecondModel" 137 yX11_mostAll]
set_option maxRecDepth 20000 in
theorem wk_1275 : ∀ w ∈ wc_1275, w ∈ lw_tbl := fun w h => List.mem_of_mem_drop (i := 1275) (List.mem_of_mem_take (i := 25) ((show wc_1275 = (lw_tbl.drop 1275).take 25 from rfl) ▸ h))
def wc_1300 : List Cond := [(Jvm.Cond.privateMethod ({ cls := "OffOnTheSecondModel", name := "mostAll", desc := "(I)I" } : Jvm.MethodName)), Cond.instanceMethod yX11_mostAll, Cond.code yX11_mostAll prog_13_method_32_code 4 (some (.int)), Cond.methodLink "OffOnTheSecondLaw" 99 yX11_spare, Cond.instanceMethod yX11_spare, Cond.selects "OffOnTheSecondModel" yX11_spare yX11_spare, Cond.code yX11_spare prog_13_method_58_code 2 (some (.int)), Cond.methodLink "OffOnTheSecondLaw" 103 yX11_tuned, Cond.instanceMethod yX11_tuned, Cond.selects "OffOnTheSecondModel" yX11_tuned yX11_tuned, Cond.code yX11_tuned prog_13_method_59_code 2 (some (.int)), Cond.methodLink "OffOnTheSecondLaw" 107 yX11_plan, Cond.instanceMethod yX11_plan, Cond.selects "OffOnTheSecondModel" yX11_plan yX11_plan, Cond.code yX11_plan prog_13_method_62_code 9 (some (.int)), Cond.methodLink "OffOnTheSecondModel" 194 yX11_noPlan, (Jvm.Cond.privateMethod ({ cls := "OffOnTheSecondModel", name := "noPlan", desc := "(I)I" } : Jvm.MethodName)), Cond.instanceMethod yX11_noPlan, Cond.code yX11_noPlan prog_13_method_61_code 2 (some (.int)), Cond.methodLink "OffOnTheSecondLaw" 111 yX11_begins, Cond.instanceMethod yX11_begins, Cond.selects "OffOnTheSecondModel" yX11_begins yX11_begins, Cond.code yX11_begins prog_13_method_63_code 9 (some (.int)), Cond.methodLink "OffOnTheSecondModel" 197 yX11_aheadOf, (Jvm.Cond.privateMethod ({ cls := "OffOnTheSecondModel", name := "aheadOf", desc := "(I)I" } : Jvm.MethodName))]
set_option maxRecDepth 20000 in
theorem wk_1300 : ∀ w ∈ wc_1300, w ∈ lw_tbl := fun w h => List.mem_of_mem_drop (i := 1300) (List.mem_of_mem_take (i := 25) ((show wc_1300 = (lw_tbl.drop 1300).take 25 from rfl) ▸ h))
def wc_1325 : List Cond := [Cond.instanceMethod yX11_aheadOf, Cond.code yX11_aheadOf prog_13_method_60_code 4 (some (.int)), Cond.methodLink "OffOnTheSecondLaw" 115 yX11_drops, Cond.instanceMethod yX11_drops, Cond.selects "OffOnTheSecondModel" yX11_drops yX11_drops, Cond.code yX11_drops prog_13_method_65_code 8 (some (.int)), Cond.methodLink "OffOnTheSecondModel" 200 yX11_worthAll, (Jvm.Cond.privateMethod ({ cls := "OffOnTheSecondModel", name := "worthAll", desc := "(I)I" } : Jvm.MethodName)), Cond.instanceMethod yX11_worthAll, Cond.code yX11_worthAll prog_13_method_64_code 4 (some (.int)), Cond.methodLink "OffOnTheSecondLaw" 119 yX11_row, Cond.instanceMethod yX11_row, Cond.selects "OffOnTheSecondModel" yX11_row yX11_row, Cond.code yX11_row prog_13_method_67_code 3 (some (.int)), Cond.methodLink "OffOnTheSecondModel" 210 yX11_goesRow, (Jvm.Cond.privateMethod ({ cls := "OffOnTheSecondModel", name := "goesRow", desc := "(IIII)V" } : Jvm.MethodName)), Cond.instanceMethod yX11_goesRow, Cond.code yX11_goesRow prog_13_method_66_code 6 none, Cond.methodLink "OffOnTheSecondLaw" 124 yX11_odds, Cond.instanceMethod yX11_odds, Cond.selects "OffOnTheSecondModel" yX11_odds yX11_odds, Cond.code yX11_odds prog_13_method_71_code 10 (some (.long)), Cond.methodLink "OffOnTheSecondModel" 214 yX11_isLive, (Jvm.Cond.privateMethod ({ cls := "OffOnTheSecondModel", name := "isLive", desc := "(I)Z" } : Jvm.MethodName)), Cond.instanceMethod yX11_isLive]
set_option maxRecDepth 20000 in
theorem wk_1325 : ∀ w ∈ wc_1325, w ∈ lw_tbl := fun w h => List.mem_of_mem_drop (i := 1325) (List.mem_of_mem_take (i := 25) ((show wc_1325 = (lw_tbl.drop 1325).take 25 from rfl) ▸ h))
def wc_1350 : List Cond := [Cond.code yX11_isLive prog_13_method_69_code 2 (some (.boolean)), Cond.methodLink "OffOnTheSecondModel" 217 yX11_moreBy, (Jvm.Cond.privateMethod ({ cls := "OffOnTheSecondModel", name := "moreBy", desc := "(I)V" } : Jvm.MethodName)), Cond.instanceMethod yX11_moreBy, Cond.code yX11_moreBy prog_13_method_70_code 4 none, Cond.methodLink "OffOnTheSecondModel" 221 yX11_divisor, Cond.static yX11_divisor, Cond.code yX11_divisor prog_13_method_68_code 10 (some (.long)), Cond.methodLink "OffOnTheSecondLaw" 128 yX11_sums, Cond.instanceMethod yX11_sums, Cond.selects "OffOnTheSecondModel" yX11_sums yX11_sums, Cond.code yX11_sums prog_13_method_73_code 8 (some (.int)), Cond.methodLink "OffOnTheSecondModel" 225 yX11_lacks, (Jvm.Cond.privateMethod ({ cls := "OffOnTheSecondModel", name := "lacks", desc := "(I)I" } : Jvm.MethodName)), Cond.instanceMethod yX11_lacks, Cond.code yX11_lacks prog_13_method_88_code 2 (some (.int)), Cond.methodLink "OffOnTheSecondModel" 261 yX11_isSheet, Cond.static yX11_isSheet, Cond.code yX11_isSheet prog_13_method_84_code 1 (some (.boolean)), Cond.methodLink "OffOnTheSecondModel" 228 yX11_truthAll, (Jvm.Cond.privateMethod ({ cls := "OffOnTheSecondModel", name := "truthAll", desc := "(I)I" } : Jvm.MethodName)), Cond.instanceMethod yX11_truthAll, Cond.code yX11_truthAll prog_13_method_72_code 4 (some (.int)), Cond.methodLink "OffOnTheSecondLaw" 133 yX11_voice, Cond.instanceMethod yX11_voice]
set_option maxRecDepth 20000 in
theorem wk_1350 : ∀ w ∈ wc_1350, w ∈ lw_tbl := fun w h => List.mem_of_mem_drop (i := 1350) (List.mem_of_mem_take (i := 25) ((show wc_1350 = (lw_tbl.drop 1350).take 25 from rfl) ▸ h))
def wc_1375 : List Cond := [Cond.selects "OffOnTheSecondModel" yX11_voice yX11_voice, Cond.code yX11_voice prog_13_method_82_code 6 (some (.int)), Cond.methodLink "OffOnTheSecondModel" 243 yX11_kindNow, (Jvm.Cond.privateMethod ({ cls := "OffOnTheSecondModel", name := "kindNow", desc := "()I" } : Jvm.MethodName)), Cond.instanceMethod yX11_kindNow, Cond.code yX11_kindNow prog_13_method_76_code 1 (some (.int)), Cond.methodLink "OffOnTheSecondModel" 240 yX11_readsAs, (Jvm.Cond.privateMethod ({ cls := "OffOnTheSecondModel", name := "readsAs", desc := "(II)I" } : Jvm.MethodName)), Cond.instanceMethod yX11_readsAs, Cond.code yX11_readsAs prog_13_method_78_code 3 (some (.int)), Cond.methodLink "OffOnTheSecondModel" 237 yX11_starts, (Jvm.Cond.privateMethod ({ cls := "OffOnTheSecondModel", name := "starts", desc := "(I)V" } : Jvm.MethodName)), Cond.instanceMethod yX11_starts, Cond.code yX11_starts prog_13_method_74_code 2 none, Cond.methodLink "OffOnTheSecondModel" 246 yX11_adlibsAs, (Jvm.Cond.privateMethod ({ cls := "OffOnTheSecondModel", name := "adlibsAs", desc := "(II)I" } : Jvm.MethodName)), Cond.instanceMethod yX11_adlibsAs, Cond.code yX11_adlibsAs prog_13_method_79_code 3 (some (.int)), Cond.methodLink "OffOnTheSecondModel" 249 yX11_mNow, (Jvm.Cond.privateMethod ({ cls := "OffOnTheSecondModel", name := "mNow", desc := "()I" } : Jvm.MethodName)), Cond.instanceMethod yX11_mNow, Cond.code yX11_mNow prog_13_method_77_code 1 (some (.int)), Cond.methodLink "OffOnTheSecondModel" 252 yX11_windsAs, (Jvm.Cond.privateMethod ({ cls := "OffOnTheSecondModel", name := "windsAs", desc := "(II)I" } : Jvm.MethodName)), Cond.instanceMethod yX11_windsAs]
set_option maxRecDepth 20000 in
theorem wk_1375 : ∀ w ∈ wc_1375, w ∈ lw_tbl := fun w h => List.mem_of_mem_drop (i := 1375) (List.mem_of_mem_take (i := 25) ((show wc_1375 = (lw_tbl.drop 1375).take 25 from rfl) ▸ h))
def wc_1400 : List Cond := [Cond.code yX11_windsAs prog_13_method_80_code 3 (some (.int)), Cond.methodLink "OffOnTheSecondModel" 258 yX11_partsAs, (Jvm.Cond.privateMethod ({ cls := "OffOnTheSecondModel", name := "partsAs", desc := "(II)I" } : Jvm.MethodName)), Cond.instanceMethod yX11_partsAs, Cond.code yX11_partsAs prog_13_method_81_code 5 (some (.int)), Cond.methodLink "OffOnTheSecondLaw" 137 yX11_body, Cond.instanceMethod yX11_body, Cond.selects "OffOnTheSecondModel" yX11_body yX11_body, Cond.code yX11_body prog_13_method_83_code 2 (some (.int)), Cond.methodLink "OffOnTheSecondLaw" 141 yX11_sheet, Cond.instanceMethod yX11_sheet, Cond.selects "OffOnTheSecondModel" yX11_sheet yX11_sheet, Cond.code yX11_sheet prog_13_method_85_code 5 (some (.int)), Cond.methodLink "OffOnTheSecondLaw" 145 yX11_put, Cond.instanceMethod yX11_put, Cond.selects "OffOnTheSecondModel" yX11_put yX11_put, Cond.code yX11_put prog_13_method_86_code 5 (some (.int)), Cond.methodLink "OffOnTheSecondLaw" 150 yX11_move, Cond.instanceMethod yX11_move, Cond.selects "OffOnTheSecondModel" yX11_move yX11_move, Cond.code yX11_move prog_13_method_87_code 7 (some (.int)), Cond.methodLink "OffOnTheSecondLaw" 154 yX11_truths, Cond.instanceMethod yX11_truths, Cond.selects "OffOnTheSecondModel" yX11_truths yX11_truths, Cond.code yX11_truths prog_13_method_89_code 4 (some (.int))]
set_option maxRecDepth 20000 in
theorem wk_1400 : ∀ w ∈ wc_1400, w ∈ lw_tbl := fun w h => List.mem_of_mem_drop (i := 1400) (List.mem_of_mem_take (i := 25) ((show wc_1400 = (lw_tbl.drop 1400).take 25 from rfl) ▸ h))
def wc_1425 : List Cond := [Cond.methodLink "OffOnTheSecondLaw" 158 yX11_judge, Cond.instanceMethod yX11_judge, Cond.selects "OffOnTheSecondModel" yX11_judge yX11_judge, Cond.code yX11_judge prog_13_method_90_code 7 (some (.int)), Cond.methodLink "OffOnTheSecondLaw" 162 yX11_image, Cond.instanceMethod yX11_image, Cond.selects "OffOnTheSecondModel" yX11_image yX11_image, Cond.code yX11_image prog_13_method_91_code 1 (some (.int)), Cond.methodLink "OffOnTheSecondModel" 264 yX11_copyAll, Cond.static yX11_copyAll, Cond.code yX11_copyAll prog_13_method_5_code 3 none, Cond.methodLink "OffOnTheSecondLaw" 166 yX11_restore, Cond.instanceMethod yX11_restore, Cond.selects "OffOnTheSecondModel" yX11_restore yX11_restore, Cond.code yX11_restore prog_13_method_92_code 1 (some (.int)), Cond.methodLink "OffOnTheSecondLaw" 170 yX11_tell, Cond.instanceMethod yX11_tell, Cond.selects "OffOnTheSecondModel" yX11_tell yX11_tell, Cond.code yX11_tell prog_13_method_93_code 2 (some (.int)), Cond.methodLink "OffOnTheSecondLaw" 174 yX11_check, Cond.instanceMethod yX11_check, Cond.selects "OffOnTheSecondModel" yX11_check yX11_check, Cond.code yX11_check prog_13_method_94_code 3 (some (.int)), Cond.methodLink "OffOnTheSecondLaw" 178 yX11_count, Cond.instanceMethod yX11_count]
set_option maxRecDepth 20000 in
theorem wk_1425 : ∀ w ∈ wc_1425, w ∈ lw_tbl := fun w h => List.mem_of_mem_drop (i := 1425) (List.mem_of_mem_take (i := 25) ((show wc_1425 = (lw_tbl.drop 1425).take 25 from rfl) ▸ h))
def wc_1450 : List Cond := [Cond.selects "OffOnTheSecondModel" yX11_count yX11_count, Cond.code yX11_count prog_13_method_95_code 2 (some (.int)), Cond.methodLink "OffOnTheSecondLaw" 182 yX11_told, Cond.instanceMethod yX11_told, Cond.selects "OffOnTheSecondModel" yX11_told yX11_told, Cond.code yX11_told prog_13_method_96_code 2 (some (.int)), Cond.constantLong "OffOnTheSecondLaw" 42 (4294967295), (Jvm.Cond.arrayClass Jvm.ClassFile.FieldType.char)]
set_option maxRecDepth 20000 in
theorem wk_1450 : ∀ w ∈ wc_1450, w ∈ lw_tbl := fun w h => List.mem_of_mem_drop (i := 1450) (List.mem_of_mem_take (i := 25) ((show wc_1450 = (lw_tbl.drop 1450).take 25 from rfl) ▸ h))
theorem mx_in_c {c : List Cond} {w : Cond} (hc : ∀ w ∈ c, w ∈ lw_tbl) (i : Nat) (h : c[i]? = some w) (hg : goodWord w = true) : w ∈ mx_TT := List.mem_filter.mpr ⟨hc _ (List.mem_of_getElem? h), hg⟩
theorem w_0 : Cond.selects "OffOnTheSecond" yX10_error yX10_error ∈ mx_TT := mx_in_c wk_0 0 rfl rfl
theorem w_1 : Cond.selects "OffOnTheSecond$Reader" yX3_takes yX3_takes ∈ mx_TT := mx_in_c wk_0 1 rfl rfl
theorem w_2 : Cond.selects "OffOnTheSecond$Reader" yX3_takesDigit yX3_takesDigit ∈ mx_TT := mx_in_c wk_0 2 rfl rfl
theorem w_3 : Cond.selects "OffOnTheSecond$Reader" yX3_takesStart yX3_takesStart ∈ mx_TT := mx_in_c wk_0 3 rfl rfl
theorem w_4 : Cond.selects "OffOnTheSecond$Reader" yX3_takesNext yX3_takesNext ∈ mx_TT := mx_in_c wk_0 4 rfl rfl
theorem w_5 : Cond.selects "OffOnTheSecond$Reader" yX3_closes yX3_closes ∈ mx_TT := mx_in_c wk_0 5 rfl rfl
theorem w_6 : Cond.selects "OffOnTheSecond$Reader" yX3_settle yX3_settle ∈ mx_TT := mx_in_c wk_0 6 rfl rfl
theorem w_7 : Cond.selects "OffOnTheSecond$Reader" yX3_isWhole yX3_isWhole ∈ mx_TT := mx_in_c wk_0 7 rfl rfl
theorem w_8 : Cond.selects "OffOnTheSecond$Show" yX7_draw yX7_draw ∈ mx_TT := mx_in_c wk_0 8 rfl rfl
theorem w_9 : Cond.selects "OffOnTheSecond$Sets" yX5_addUp yX5_addUp ∈ mx_TT := mx_in_c wk_0 9 rfl rfl
theorem w_10 : Cond.selects "OffOnTheSecond$Sets" yX5_findsBest yX5_findsBest ∈ mx_TT := mx_in_c wk_0 10 rfl rfl
theorem w_11 : Cond.selects "OffOnTheSecond$Rows" yX4_askLikings yX4_askLikings ∈ mx_TT := mx_in_c wk_0 11 rfl rfl
theorem w_12 : Cond.selects "OffOnTheSecond$Rows" yX4_bestNext yX4_bestNext ∈ mx_TT := mx_in_c wk_0 12 rfl rfl
theorem w_13 : Cond.selects "OffOnTheSecond$Rows" yX4_withNext yX4_withNext ∈ mx_TT := mx_in_c wk_0 13 rfl rfl
theorem w_14 : Cond.selects "OffOnTheSecond$Rows" yX4_choose yX4_choose ∈ mx_TT := mx_in_c wk_0 14 rfl rfl
theorem w_15 : Cond.selects "OffOnTheSecond$Odds" yX2_clearWays yX2_clearWays ∈ mx_TT := mx_in_c wk_0 15 rfl rfl
theorem w_16 : Cond.selects "OffOnTheSecond$Odds" yX2_spread yX2_spread ∈ mx_TT := mx_in_c wk_0 16 rfl rfl
theorem w_17 : Cond.selects "OffOnTheSecond$Odds" yX2_waysWithin yX2_waysWithin ∈ mx_TT := mx_in_c wk_0 17 rfl rfl
theorem w_18 : Cond.selects "OffOnTheSecond$Odds" yX2_reduce yX2_reduce ∈ mx_TT := mx_in_c wk_0 18 rfl rfl
theorem w_19 : Cond.selects "OffOnTheSecond" yX10_sheetAt yX10_sheetAt ∈ mx_TT := mx_in_c wk_0 19 rfl rfl
theorem w_20 : Cond.selects "OffOnTheSecond$Voices" yX9_speak yX9_speak ∈ mx_TT := mx_in_c wk_0 20 rfl rfl
theorem w_21 : Cond.selects "OffOnTheSecond$Voices" yX9_answerOf yX9_answerOf ∈ mx_TT := mx_in_c wk_0 21 rfl rfl
theorem w_22 : Cond.selects "OffOnTheSecond$Voices" yX9_cutUp yX9_cutUp ∈ mx_TT := mx_in_c wk_0 22 rfl rfl
theorem w_23 : Cond.selects "OffOnTheSecondModel" yX11_error yX11_error ∈ mx_TT := mx_in_c wk_0 23 rfl rfl
theorem w_24 : Cond.selects "OffOnTheSecondModel" yX11_whole yX11_whole ∈ mx_TT := mx_in_c wk_0 24 rfl rfl
theorem w_25 : Cond.selects "OffOnTheSecondModel" yX11_both yX11_both ∈ mx_TT := mx_in_c wk_25 0 rfl rfl
theorem w_26 : Cond.selects "OffOnTheSecondModel" yX11_compared yX11_compared ∈ mx_TT := mx_in_c wk_25 1 rfl rfl
theorem w_27 : Cond.selects "OffOnTheSecondModel" yX11_sum yX11_sum ∈ mx_TT := mx_in_c wk_25 2 rfl rfl
theorem w_28 : Cond.selects "OffOnTheSecondModel" yX11_product yX11_product ∈ mx_TT := mx_in_c wk_25 3 rfl rfl
theorem w_29 : Cond.selects "OffOnTheSecondModel" yX11_one yX11_one ∈ mx_TT := mx_in_c wk_25 4 rfl rfl
theorem w_30 : Cond.selects "OffOnTheSecondModel" yX11_look yX11_look ∈ mx_TT := mx_in_c wk_25 5 rfl rfl
theorem w_31 : Cond.selects "OffOnTheSecondModel" yX11_isName yX11_isName ∈ mx_TT := mx_in_c wk_25 6 rfl rfl
theorem w_32 : Cond.selects "OffOnTheSecondModel" yX11_step1 yX11_step1 ∈ mx_TT := mx_in_c wk_25 7 rfl rfl
theorem w_33 : Cond.selects "OffOnTheSecondModel" yX11_opens yX11_opens ∈ mx_TT := mx_in_c wk_25 8 rfl rfl
theorem w_34 : Cond.selects "OffOnTheSecondModel" yX11_hasText yX11_hasText ∈ mx_TT := mx_in_c wk_25 9 rfl rfl
theorem w_35 : Cond.selects "OffOnTheSecondModel" yX11_lays1 yX11_lays1 ∈ mx_TT := mx_in_c wk_25 10 rfl rfl
theorem w_36 : Cond.selects "OffOnTheSecondModel" yX11_isItem yX11_isItem ∈ mx_TT := mx_in_c wk_25 11 rfl rfl
theorem w_37 : Cond.selects "OffOnTheSecondModel" yX11_leastOf yX11_leastOf ∈ mx_TT := mx_in_c wk_25 12 rfl rfl
theorem w_38 : Cond.selects "OffOnTheSecondModel" yX11_its yX11_its ∈ mx_TT := mx_in_c wk_25 13 rfl rfl
theorem w_39 : Cond.selects "OffOnTheSecondModel" yX11_mostOf yX11_mostOf ∈ mx_TT := mx_in_c wk_25 14 rfl rfl
theorem w_40 : Cond.selects "OffOnTheSecondModel" yX11_change1 yX11_change1 ∈ mx_TT := mx_in_c wk_25 15 rfl rfl
theorem w_41 : Cond.selects "OffOnTheSecondModel" yX11_isLeft yX11_isLeft ∈ mx_TT := mx_in_c wk_25 16 rfl rfl
theorem w_42 : Cond.selects "OffOnTheSecondModel" yX11_worthTold yX11_worthTold ∈ mx_TT := mx_in_c wk_25 17 rfl rfl
theorem w_43 : Cond.selects "OffOnTheSecondModel" yX11_worked yX11_worked ∈ mx_TT := mx_in_c wk_25 18 rfl rfl
theorem w_44 : Cond.selects "OffOnTheSecondModel" yX11_likedTold yX11_likedTold ∈ mx_TT := mx_in_c wk_25 19 rfl rfl
theorem w_45 : Cond.selects "OffOnTheSecondModel" yX11_onNow yX11_onNow ∈ mx_TT := mx_in_c wk_25 20 rfl rfl
theorem w_46 : Cond.selects "OffOnTheSecondModel" yX11_itemAt yX11_itemAt ∈ mx_TT := mx_in_c wk_25 21 rfl rfl
theorem w_47 : Cond.selects "OffOnTheSecondModel" yX11_isDone yX11_isDone ∈ mx_TT := mx_in_c wk_25 22 rfl rfl
theorem w_48 : Cond.selects "OffOnTheSecondModel" yX11_leftSet yX11_leftSet ∈ mx_TT := mx_in_c wk_25 23 rfl rfl
theorem w_49 : Cond.selects "OffOnTheSecondModel" yX11_draw yX11_draw ∈ mx_TT := mx_in_c wk_25 24 rfl rfl
theorem w_50 : Cond.selects "OffOnTheSecondModel" yX11_thereIs yX11_thereIs ∈ mx_TT := mx_in_c wk_50 0 rfl rfl
theorem w_51 : Cond.selects "OffOnTheSecondModel" yX11_fitsSet yX11_fitsSet ∈ mx_TT := mx_in_c wk_50 1 rfl rfl
theorem w_52 : Cond.selects "OffOnTheSecondModel" yX11_leastAll yX11_leastAll ∈ mx_TT := mx_in_c wk_50 2 rfl rfl
theorem w_53 : Cond.selects "OffOnTheSecondModel" yX11_mostAll yX11_mostAll ∈ mx_TT := mx_in_c wk_50 3 rfl rfl
theorem w_54 : Cond.selects "OffOnTheSecondModel" yX11_noPlan yX11_noPlan ∈ mx_TT := mx_in_c wk_50 4 rfl rfl
theorem w_55 : Cond.selects "OffOnTheSecondModel" yX11_aheadOf yX11_aheadOf ∈ mx_TT := mx_in_c wk_50 5 rfl rfl
theorem w_56 : Cond.selects "OffOnTheSecondModel" yX11_worthAll yX11_worthAll ∈ mx_TT := mx_in_c wk_50 6 rfl rfl
theorem w_57 : Cond.selects "OffOnTheSecondModel" yX11_goesRow yX11_goesRow ∈ mx_TT := mx_in_c wk_50 7 rfl rfl
theorem w_58 : Cond.selects "OffOnTheSecondModel" yX11_isLive yX11_isLive ∈ mx_TT := mx_in_c wk_50 8 rfl rfl
theorem w_59 : Cond.selects "OffOnTheSecondModel" yX11_moreBy yX11_moreBy ∈ mx_TT := mx_in_c wk_50 9 rfl rfl
theorem w_60 : Cond.selects "OffOnTheSecondModel" yX11_lacks yX11_lacks ∈ mx_TT := mx_in_c wk_50 10 rfl rfl
theorem w_61 : Cond.selects "OffOnTheSecondModel" yX11_truthAll yX11_truthAll ∈ mx_TT := mx_in_c wk_50 11 rfl rfl
theorem w_62 : Cond.selects "OffOnTheSecondModel" yX11_kindNow yX11_kindNow ∈ mx_TT := mx_in_c wk_50 12 rfl rfl
theorem w_63 : Cond.selects "OffOnTheSecondModel" yX11_readsAs yX11_readsAs ∈ mx_TT := mx_in_c wk_50 13 rfl rfl
theorem w_64 : Cond.selects "OffOnTheSecondModel" yX11_starts yX11_starts ∈ mx_TT := mx_in_c wk_50 14 rfl rfl
theorem w_65 : Cond.selects "OffOnTheSecondModel" yX11_adlibsAs yX11_adlibsAs ∈ mx_TT := mx_in_c wk_50 15 rfl rfl
theorem w_66 : Cond.selects "OffOnTheSecondModel" yX11_mNow yX11_mNow ∈ mx_TT := mx_in_c wk_50 16 rfl rfl
theorem w_67 : Cond.selects "OffOnTheSecondModel" yX11_windsAs yX11_windsAs ∈ mx_TT := mx_in_c wk_50 17 rfl rfl
theorem w_68 : Cond.selects "OffOnTheSecondModel" yX11_partsAs yX11_partsAs ∈ mx_TT := mx_in_c wk_50 18 rfl rfl
theorem w_70 : Cond.initialized "OffOnTheSecond" ∈ mx_TT := mx_in_c wk_50 20 rfl rfl
theorem w_71 : Cond.initialized "OffOnTheSecond$Show" ∈ mx_TT := mx_in_c wk_50 21 rfl rfl
theorem w_72 : Cond.initialized "OffOnTheSecond$Items" ∈ mx_TT := mx_in_c wk_50 22 rfl rfl
theorem w_73 : Cond.initialized "OffOnTheSecond$Line" ∈ mx_TT := mx_in_c wk_50 23 rfl rfl
theorem w_74 : Cond.initialized "java/lang/Math" ∈ mx_TT := mx_in_c wk_50 24 rfl rfl
theorem w_75 : Cond.initialized "OffOnTheSecond$Text" ∈ mx_TT := mx_in_c wk_75 0 rfl rfl
theorem w_76 : Cond.initialized "OffOnTheSecond$Reader" ∈ mx_TT := mx_in_c wk_75 1 rfl rfl
theorem w_77 : Cond.initialized "OffOnTheSecond$Sets" ∈ mx_TT := mx_in_c wk_75 2 rfl rfl
theorem w_78 : Cond.initialized "OffOnTheSecond$Rows" ∈ mx_TT := mx_in_c wk_75 3 rfl rfl
theorem w_79 : Cond.initialized "OffOnTheSecond$Odds" ∈ mx_TT := mx_in_c wk_75 4 rfl rfl
theorem w_80 : Cond.initialized "OffOnTheSecond$Voices" ∈ mx_TT := mx_in_c wk_75 5 rfl rfl
theorem w_81 : Cond.initialized "OffOnTheSecond$Sheet" ∈ mx_TT := mx_in_c wk_75 6 rfl rfl
theorem w_82 : Cond.initialized "OffOnTheSecondModel" ∈ mx_TT := mx_in_c wk_75 7 rfl rfl
theorem w_83 : Cond.initialized "java/lang/Integer" ∈ mx_TT := mx_in_c wk_75 8 rfl rfl
theorem w_84 : Cond.initialized "java/lang/System" ∈ mx_TT := mx_in_c wk_75 9 rfl rfl
theorem w_85 : Cond.classLink "OffOnTheSecondLaw" 7 "OffOnTheSecond" ∈ mx_TT := mx_in_c wk_75 10 rfl rfl
theorem w_86 : Cond.instantiable "OffOnTheSecond" 10 ∈ mx_TT := mx_in_c wk_75 11 rfl rfl
theorem w_87 : Cond.methodLink "OffOnTheSecondLaw" 9 yX10_init ∈ mx_TT := mx_in_c wk_75 12 rfl rfl
theorem w_88 : Cond.instanceMethod yX10_init ∈ mx_TT := mx_in_c wk_75 13 rfl rfl
theorem w_89 : Cond.code yX10_init prog_1_method_1_code 2 none ∈ mx_TT := mx_in_c wk_75 14 rfl rfl
theorem w_90 : Cond.methodLink "OffOnTheSecond" 1 Lib.objectInit ∈ mx_TT := mx_in_c wk_75 15 rfl rfl
theorem w_91 : Cond.instanceMethod Lib.objectInit ∈ mx_TT := mx_in_c wk_75 16 rfl rfl
theorem w_92 : Cond.code Lib.objectInit ⟨#[0xb1]⟩ 1 none ∈ mx_TT := mx_in_c wk_75 17 rfl rfl
theorem w_93 : Cond.classLink "OffOnTheSecond" 7 "OffOnTheSecond$Show" ∈ mx_TT := mx_in_c wk_75 18 rfl rfl
theorem w_94 : Cond.instantiable "OffOnTheSecond$Show" 9 ∈ mx_TT := mx_in_c wk_75 19 rfl rfl
theorem w_96 : Cond.instanceMethod yX7_init ∈ mx_TT := mx_in_c wk_75 21 rfl rfl
theorem w_97 : Cond.code yX7_init prog_9_method_1_code 1 none ∈ mx_TT := mx_in_c wk_75 22 rfl rfl
theorem w_98 : Cond.methodLink "OffOnTheSecond$Show" 3 Lib.objectInit ∈ mx_TT := mx_in_c wk_75 23 rfl rfl
theorem w_99 : Cond.classLink "OffOnTheSecond$Show" 9 "OffOnTheSecond$Items" ∈ mx_TT := mx_in_c wk_75 24 rfl rfl
theorem w_100 : Cond.instantiable "OffOnTheSecond$Items" 6 ∈ mx_TT := mx_in_c wk_100 0 rfl rfl
theorem w_102 : Cond.instanceMethod yX0_init ∈ mx_TT := mx_in_c wk_100 2 rfl rfl
theorem w_103 : Cond.code yX0_init prog_2_method_1_code 1 none ∈ mx_TT := mx_in_c wk_100 3 rfl rfl
theorem w_104 : Cond.methodLink "OffOnTheSecond$Items" 3 Lib.objectInit ∈ mx_TT := mx_in_c wk_100 4 rfl rfl
theorem w_105 : Cond.classLink "OffOnTheSecond$Items" 15 "OffOnTheSecond$Line" ∈ mx_TT := mx_in_c wk_100 5 rfl rfl
theorem w_106 : Cond.instantiable "OffOnTheSecond$Line" 2 ∈ mx_TT := mx_in_c wk_100 6 rfl rfl
theorem w_107 : Cond.methodLink "OffOnTheSecond$Items" 17 yX1_init ∈ mx_TT := mx_in_c wk_100 7 rfl rfl
theorem w_108 : Cond.instanceMethod yX1_init ∈ mx_TT := mx_in_c wk_100 8 rfl rfl
theorem w_109 : Cond.code yX1_init prog_3_method_1_code 2 none ∈ mx_TT := mx_in_c wk_100 9 rfl rfl
theorem w_110 : Cond.methodLink "OffOnTheSecond$Line" 1 Lib.objectInit ∈ mx_TT := mx_in_c wk_100 10 rfl rfl
theorem w_111 : Cond.methodLink "OffOnTheSecond$Line" 13 Lib.Math.max.name ∈ mx_TT := mx_in_c wk_100 11 rfl rfl
theorem w_112 : Cond.static Lib.Math.max.name ∈ mx_TT := mx_in_c wk_100 12 rfl rfl
theorem w_113 : Cond.code Lib.Math.max.name Lib.Math.max.code 2 (some .int) ∈ mx_TT := mx_in_c wk_100 13 rfl rfl
theorem w_114 : Cond.fieldLink "OffOnTheSecond$Line" 19 "OffOnTheSecond$Line" "cells" "[I" ∈ mx_TT := mx_in_c wk_100 14 rfl rfl
theorem w_115 : Cond.fieldLink "OffOnTheSecond" 307 "OffOnTheSecond$Line" "cells" "[I" ∈ mx_TT := mx_in_c wk_100 15 rfl rfl
theorem w_116 : Cond.fieldLink "OffOnTheSecond$Line" 7 "OffOnTheSecond$Line" "size" "I" ∈ mx_TT := mx_in_c wk_100 16 rfl rfl
theorem w_117 : Cond.fieldLink "OffOnTheSecond$Rows" 37 "OffOnTheSecond$Line" "size" "I" ∈ mx_TT := mx_in_c wk_100 17 rfl rfl
theorem w_118 : Cond.fieldLink "OffOnTheSecond$Reader" 37 "OffOnTheSecond$Line" "size" "I" ∈ mx_TT := mx_in_c wk_100 18 rfl rfl
theorem w_119 : Cond.fieldLink "OffOnTheSecond$Text" 34 "OffOnTheSecond$Line" "size" "I" ∈ mx_TT := mx_in_c wk_100 19 rfl rfl
theorem w_120 : Cond.fieldLink "OffOnTheSecond" 155 "OffOnTheSecond$Line" "size" "I" ∈ mx_TT := mx_in_c wk_100 20 rfl rfl
theorem w_121 : Cond.fieldLink "OffOnTheSecond$Items" 98 "OffOnTheSecond$Line" "size" "I" ∈ mx_TT := mx_in_c wk_100 21 rfl rfl
theorem w_127 : Cond.arrayClass .int ∈ mx_TT := mx_in_c wk_125 2 rfl rfl
theorem w_128 : Cond.fieldLink "OffOnTheSecond$Items" 9 "OffOnTheSecond$Items" "size" "I" ∈ mx_TT := mx_in_c wk_125 3 rfl rfl
theorem w_129 : Cond.fieldLink "OffOnTheSecond$Sets" 49 "OffOnTheSecond$Items" "size" "I" ∈ mx_TT := mx_in_c wk_125 4 rfl rfl
theorem w_130 : Cond.fieldLink "OffOnTheSecond" 89 "OffOnTheSecond$Items" "size" "I" ∈ mx_TT := mx_in_c wk_125 5 rfl rfl
theorem w_131 : Cond.fieldLink "OffOnTheSecond$Odds" 35 "OffOnTheSecond$Items" "size" "I" ∈ mx_TT := mx_in_c wk_125 6 rfl rfl
theorem w_132 : Cond.fieldLink "OffOnTheSecond$Rows" 67 "OffOnTheSecond$Items" "size" "I" ∈ mx_TT := mx_in_c wk_125 7 rfl rfl
theorem w_133 : Cond.fieldLink "OffOnTheSecond$Items" 20 "OffOnTheSecond$Items" "kinds" "LOffOnTheSecond$Line;" ∈ mx_TT := mx_in_c wk_125 8 rfl rfl
theorem w_134 : Cond.fieldLink "OffOnTheSecond$Voices" 37 "OffOnTheSecond$Items" "kinds" "LOffOnTheSecond$Line;" ∈ mx_TT := mx_in_c wk_125 9 rfl rfl
theorem w_135 : Cond.fieldLink "OffOnTheSecond" 101 "OffOnTheSecond$Items" "kinds" "LOffOnTheSecond$Line;" ∈ mx_TT := mx_in_c wk_125 10 rfl rfl
theorem w_136 : Cond.fieldLink "OffOnTheSecond$Rows" 77 "OffOnTheSecond$Items" "kinds" "LOffOnTheSecond$Line;" ∈ mx_TT := mx_in_c wk_125 11 rfl rfl
theorem w_137 : Cond.fieldLink "OffOnTheSecond$Show" 126 "OffOnTheSecond$Items" "kinds" "LOffOnTheSecond$Line;" ∈ mx_TT := mx_in_c wk_125 12 rfl rfl
theorem w_138 : Cond.fieldLink "OffOnTheSecond$Items" 24 "OffOnTheSecond$Items" "ms" "LOffOnTheSecond$Line;" ∈ mx_TT := mx_in_c wk_125 13 rfl rfl
theorem w_139 : Cond.fieldLink "OffOnTheSecond$Voices" 46 "OffOnTheSecond$Items" "ms" "LOffOnTheSecond$Line;" ∈ mx_TT := mx_in_c wk_125 14 rfl rfl
theorem w_140 : Cond.fieldLink "OffOnTheSecond$Odds" 59 "OffOnTheSecond$Items" "ms" "LOffOnTheSecond$Line;" ∈ mx_TT := mx_in_c wk_125 15 rfl rfl
theorem w_141 : Cond.fieldLink "OffOnTheSecond" 107 "OffOnTheSecond$Items" "ms" "LOffOnTheSecond$Line;" ∈ mx_TT := mx_in_c wk_125 16 rfl rfl
theorem w_142 : Cond.fieldLink "OffOnTheSecond$Items" 27 "OffOnTheSecond$Items" "trues" "LOffOnTheSecond$Line;" ∈ mx_TT := mx_in_c wk_125 17 rfl rfl
theorem w_143 : Cond.fieldLink "OffOnTheSecond$Odds" 49 "OffOnTheSecond$Items" "trues" "LOffOnTheSecond$Line;" ∈ mx_TT := mx_in_c wk_125 18 rfl rfl
theorem w_144 : Cond.fieldLink "OffOnTheSecond$Sets" 77 "OffOnTheSecond$Items" "trues" "LOffOnTheSecond$Line;" ∈ mx_TT := mx_in_c wk_125 19 rfl rfl
theorem w_145 : Cond.fieldLink "OffOnTheSecond" 110 "OffOnTheSecond$Items" "trues" "LOffOnTheSecond$Line;" ∈ mx_TT := mx_in_c wk_125 20 rfl rfl
theorem w_146 : Cond.fieldLink "OffOnTheSecond$Show" 129 "OffOnTheSecond$Items" "trues" "LOffOnTheSecond$Line;" ∈ mx_TT := mx_in_c wk_125 21 rfl rfl
theorem w_147 : Cond.fieldLink "OffOnTheSecond$Items" 30 "OffOnTheSecond$Items" "fates" "LOffOnTheSecond$Line;" ∈ mx_TT := mx_in_c wk_125 22 rfl rfl
theorem w_148 : Cond.fieldLink "OffOnTheSecond" 122 "OffOnTheSecond$Items" "fates" "LOffOnTheSecond$Line;" ∈ mx_TT := mx_in_c wk_125 23 rfl rfl
theorem w_149 : Cond.fieldLink "OffOnTheSecond$Show" 63 "OffOnTheSecond$Items" "fates" "LOffOnTheSecond$Line;" ∈ mx_TT := mx_in_c wk_125 24 rfl rfl
theorem w_150 : Cond.fieldLink "OffOnTheSecond$Items" 33 "OffOnTheSecond$Items" "order" "LOffOnTheSecond$Line;" ∈ mx_TT := mx_in_c wk_150 0 rfl rfl
theorem w_151 : Cond.fieldLink "OffOnTheSecond$Show" 96 "OffOnTheSecond$Items" "order" "LOffOnTheSecond$Line;" ∈ mx_TT := mx_in_c wk_150 1 rfl rfl
theorem w_165 : Cond.classLink "OffOnTheSecond$Show" 31 "OffOnTheSecond$Line" ∈ mx_TT := mx_in_c wk_150 15 rfl rfl
theorem w_166 : Cond.methodLink "OffOnTheSecond$Show" 33 yX1_init ∈ mx_TT := mx_in_c wk_150 16 rfl rfl
theorem w_167 : Cond.classLink "OffOnTheSecond$Show" 43 "OffOnTheSecond$Text" ∈ mx_TT := mx_in_c wk_150 17 rfl rfl
theorem w_168 : Cond.instantiable "OffOnTheSecond$Text" 3 ∈ mx_TT := mx_in_c wk_150 18 rfl rfl
theorem w_170 : Cond.instanceMethod yX8_init ∈ mx_TT := mx_in_c wk_150 20 rfl rfl
theorem w_171 : Cond.code yX8_init prog_10_method_1_code 1 none ∈ mx_TT := mx_in_c wk_150 21 rfl rfl
theorem w_172 : Cond.methodLink "OffOnTheSecond$Text" 3 Lib.objectInit ∈ mx_TT := mx_in_c wk_150 22 rfl rfl
theorem w_173 : Cond.classLink "OffOnTheSecond$Text" 15 "OffOnTheSecond$Line" ∈ mx_TT := mx_in_c wk_150 23 rfl rfl
theorem w_174 : Cond.methodLink "OffOnTheSecond$Text" 17 yX1_init ∈ mx_TT := mx_in_c wk_150 24 rfl rfl
theorem w_175 : Cond.fieldLink "OffOnTheSecond$Text" 9 "OffOnTheSecond$Text" "stands" "Z" ∈ mx_TT := mx_in_c wk_175 0 rfl rfl
theorem w_176 : Cond.fieldLink "OffOnTheSecond$Show" 115 "OffOnTheSecond$Text" "stands" "Z" ∈ mx_TT := mx_in_c wk_175 1 rfl rfl
theorem w_177 : Cond.fieldLink "OffOnTheSecond$Text" 20 "OffOnTheSecond$Text" "code" "LOffOnTheSecond$Line;" ∈ mx_TT := mx_in_c wk_175 2 rfl rfl
theorem w_178 : Cond.fieldLink "OffOnTheSecond$Text" 24 "OffOnTheSecond$Text" "stack" "LOffOnTheSecond$Line;" ∈ mx_TT := mx_in_c wk_175 3 rfl rfl
theorem w_186 : Cond.fieldLink "OffOnTheSecond$Show" 12 "OffOnTheSecond$Show" "items" "LOffOnTheSecond$Items;" ∈ mx_TT := mx_in_c wk_175 11 rfl rfl
theorem w_187 : Cond.fieldLink "OffOnTheSecond$Sets" 37 "OffOnTheSecond$Show" "items" "LOffOnTheSecond$Items;" ∈ mx_TT := mx_in_c wk_175 12 rfl rfl
theorem w_188 : Cond.fieldLink "OffOnTheSecond$Odds" 22 "OffOnTheSecond$Show" "items" "LOffOnTheSecond$Items;" ∈ mx_TT := mx_in_c wk_175 13 rfl rfl
theorem w_189 : Cond.fieldLink "OffOnTheSecond" 85 "OffOnTheSecond$Show" "items" "LOffOnTheSecond$Items;" ∈ mx_TT := mx_in_c wk_175 14 rfl rfl
theorem w_190 : Cond.fieldLink "OffOnTheSecond$Rows" 61 "OffOnTheSecond$Show" "items" "LOffOnTheSecond$Items;" ∈ mx_TT := mx_in_c wk_175 15 rfl rfl
theorem w_191 : Cond.fieldLink "OffOnTheSecond$Show" 18 "OffOnTheSecond$Show" "end" "I" ∈ mx_TT := mx_in_c wk_175 16 rfl rfl
theorem w_192 : Cond.fieldLink "OffOnTheSecond" 330 "OffOnTheSecond$Show" "end" "I" ∈ mx_TT := mx_in_c wk_175 17 rfl rfl
theorem w_193 : Cond.fieldLink "OffOnTheSecond$Show" 22 "OffOnTheSecond$Show" "now" "I" ∈ mx_TT := mx_in_c wk_175 18 rfl rfl
theorem w_194 : Cond.fieldLink "OffOnTheSecond" 194 "OffOnTheSecond$Show" "now" "I" ∈ mx_TT := mx_in_c wk_175 19 rfl rfl
theorem w_195 : Cond.fieldLink "OffOnTheSecond$Show" 25 "OffOnTheSecond$Show" "tune" "I" ∈ mx_TT := mx_in_c wk_175 20 rfl rfl
theorem w_196 : Cond.fieldLink "OffOnTheSecond" 224 "OffOnTheSecond$Show" "tune" "I" ∈ mx_TT := mx_in_c wk_175 21 rfl rfl
theorem w_197 : Cond.fieldLink "OffOnTheSecond$Show" 28 "OffOnTheSecond$Show" "z" "I" ∈ mx_TT := mx_in_c wk_175 22 rfl rfl
theorem w_198 : Cond.fieldLink "OffOnTheSecond" 209 "OffOnTheSecond$Show" "z" "I" ∈ mx_TT := mx_in_c wk_175 23 rfl rfl
theorem w_199 : Cond.fieldLink "OffOnTheSecond$Show" 36 "OffOnTheSecond$Show" "tape" "LOffOnTheSecond$Line;" ∈ mx_TT := mx_in_c wk_175 24 rfl rfl
theorem w_200 : Cond.fieldLink "OffOnTheSecond" 145 "OffOnTheSecond$Show" "tape" "LOffOnTheSecond$Line;" ∈ mx_TT := mx_in_c wk_200 0 rfl rfl
theorem w_201 : Cond.fieldLink "OffOnTheSecond$Show" 40 "OffOnTheSecond$Show" "waiting" "LOffOnTheSecond$Line;" ∈ mx_TT := mx_in_c wk_200 1 rfl rfl
theorem w_202 : Cond.fieldLink "OffOnTheSecond" 324 "OffOnTheSecond$Show" "waiting" "LOffOnTheSecond$Line;" ∈ mx_TT := mx_in_c wk_200 2 rfl rfl
theorem w_203 : Cond.fieldLink "OffOnTheSecond$Show" 46 "OffOnTheSecond$Show" "worth" "LOffOnTheSecond$Text;" ∈ mx_TT := mx_in_c wk_200 3 rfl rfl
theorem w_204 : Cond.fieldLink "OffOnTheSecond$Show" 50 "OffOnTheSecond$Show" "liked" "LOffOnTheSecond$Text;" ∈ mx_TT := mx_in_c wk_200 4 rfl rfl
theorem w_224 : Cond.classLink "OffOnTheSecond" 23 "OffOnTheSecond$Line" ∈ mx_TT := mx_in_c wk_200 24 rfl rfl
theorem w_225 : Cond.methodLink "OffOnTheSecond" 25 yX1_init ∈ mx_TT := mx_in_c wk_225 0 rfl rfl
theorem w_226 : Cond.classLink "OffOnTheSecond" 32 "OffOnTheSecond$Reader" ∈ mx_TT := mx_in_c wk_225 1 rfl rfl
theorem w_227 : Cond.instantiable "OffOnTheSecond$Reader" 5 ∈ mx_TT := mx_in_c wk_225 2 rfl rfl
theorem w_229 : Cond.instanceMethod yX3_init ∈ mx_TT := mx_in_c wk_225 4 rfl rfl
theorem w_230 : Cond.code yX3_init prog_5_method_1_code 1 none ∈ mx_TT := mx_in_c wk_225 5 rfl rfl
theorem w_231 : Cond.methodLink "OffOnTheSecond$Reader" 3 Lib.objectInit ∈ mx_TT := mx_in_c wk_225 6 rfl rfl
theorem w_232 : Cond.classLink "OffOnTheSecond$Reader" 9 "OffOnTheSecond$Line" ∈ mx_TT := mx_in_c wk_225 7 rfl rfl
theorem w_233 : Cond.methodLink "OffOnTheSecond$Reader" 11 yX1_init ∈ mx_TT := mx_in_c wk_225 8 rfl rfl
theorem w_234 : Cond.fieldLink "OffOnTheSecond$Reader" 14 "OffOnTheSecond$Reader" "code" "LOffOnTheSecond$Line;" ∈ mx_TT := mx_in_c wk_225 9 rfl rfl
theorem w_235 : Cond.fieldLink "OffOnTheSecond" 170 "OffOnTheSecond$Reader" "code" "LOffOnTheSecond$Line;" ∈ mx_TT := mx_in_c wk_225 10 rfl rfl
theorem w_236 : Cond.fieldLink "OffOnTheSecond$Reader" 20 "OffOnTheSecond$Reader" "pending" "LOffOnTheSecond$Line;" ∈ mx_TT := mx_in_c wk_225 11 rfl rfl
theorem w_237 : Cond.fieldLink "OffOnTheSecond$Reader" 23 "OffOnTheSecond$Reader" "wantsQ" "Z" ∈ mx_TT := mx_in_c wk_225 12 rfl rfl
theorem w_238 : Cond.fieldLink "OffOnTheSecond$Reader" 27 "OffOnTheSecond$Reader" "open" "I" ∈ mx_TT := mx_in_c wk_225 13 rfl rfl
theorem w_239 : Cond.fieldLink "OffOnTheSecond$Reader" 31 "OffOnTheSecond$Reader" "digits" "I" ∈ mx_TT := mx_in_c wk_225 14 rfl rfl
theorem w_251 : Cond.classLink "OffOnTheSecond" 39 "OffOnTheSecond$Sets" ∈ mx_TT := mx_in_c wk_250 1 rfl rfl
theorem w_252 : Cond.instantiable "OffOnTheSecond$Sets" 6 ∈ mx_TT := mx_in_c wk_250 2 rfl rfl
theorem w_254 : Cond.instanceMethod yX5_init ∈ mx_TT := mx_in_c wk_250 4 rfl rfl
theorem w_255 : Cond.code yX5_init prog_7_method_1_code 1 none ∈ mx_TT := mx_in_c wk_250 5 rfl rfl
theorem w_256 : Cond.methodLink "OffOnTheSecond$Sets" 3 Lib.objectInit ∈ mx_TT := mx_in_c wk_250 6 rfl rfl
theorem w_257 : Cond.classLink "OffOnTheSecond$Sets" 15 "OffOnTheSecond$Line" ∈ mx_TT := mx_in_c wk_250 7 rfl rfl
theorem w_258 : Cond.methodLink "OffOnTheSecond$Sets" 17 yX1_init ∈ mx_TT := mx_in_c wk_250 8 rfl rfl
theorem w_259 : Cond.fieldLink "OffOnTheSecond$Sets" 9 "OffOnTheSecond$Sets" "found" "I" ∈ mx_TT := mx_in_c wk_250 9 rfl rfl
theorem w_260 : Cond.fieldLink "OffOnTheSecond" 240 "OffOnTheSecond$Sets" "found" "I" ∈ mx_TT := mx_in_c wk_250 10 rfl rfl
theorem w_261 : Cond.fieldLink "OffOnTheSecond$Sets" 20 "OffOnTheSecond$Sets" "values" "LOffOnTheSecond$Line;" ∈ mx_TT := mx_in_c wk_250 11 rfl rfl
theorem w_262 : Cond.fieldLink "OffOnTheSecond$Sets" 24 "OffOnTheSecond$Sets" "leasts" "[I" ∈ mx_TT := mx_in_c wk_250 12 rfl rfl
theorem w_263 : Cond.fieldLink "OffOnTheSecond$Sets" 28 "OffOnTheSecond$Sets" "mosts" "[I" ∈ mx_TT := mx_in_c wk_250 13 rfl rfl
theorem w_264 : Cond.fieldLink "OffOnTheSecond$Sets" 31 "OffOnTheSecond$Sets" "worths" "[I" ∈ mx_TT := mx_in_c wk_250 14 rfl rfl
theorem w_265 : Cond.fieldLink "OffOnTheSecond$Sets" 34 "OffOnTheSecond$Sets" "trues" "[I" ∈ mx_TT := mx_in_c wk_250 15 rfl rfl
theorem w_279 : Cond.classLink "OffOnTheSecond" 46 "OffOnTheSecond$Rows" ∈ mx_TT := mx_in_c wk_275 4 rfl rfl
theorem w_280 : Cond.instantiable "OffOnTheSecond$Rows" 5 ∈ mx_TT := mx_in_c wk_275 5 rfl rfl
theorem w_282 : Cond.instanceMethod yX4_init ∈ mx_TT := mx_in_c wk_275 7 rfl rfl
theorem w_283 : Cond.code yX4_init prog_6_method_1_code 1 none ∈ mx_TT := mx_in_c wk_275 8 rfl rfl
theorem w_284 : Cond.methodLink "OffOnTheSecond$Rows" 3 Lib.objectInit ∈ mx_TT := mx_in_c wk_275 9 rfl rfl
theorem w_285 : Cond.classLink "OffOnTheSecond$Rows" 15 "OffOnTheSecond$Line" ∈ mx_TT := mx_in_c wk_275 10 rfl rfl
theorem w_286 : Cond.methodLink "OffOnTheSecond$Rows" 17 yX1_init ∈ mx_TT := mx_in_c wk_275 11 rfl rfl
theorem w_287 : Cond.fieldLink "OffOnTheSecond$Rows" 9 "OffOnTheSecond$Rows" "liked" "I" ∈ mx_TT := mx_in_c wk_275 12 rfl rfl
theorem w_288 : Cond.fieldLink "OffOnTheSecond" 252 "OffOnTheSecond$Rows" "liked" "I" ∈ mx_TT := mx_in_c wk_275 13 rfl rfl
theorem w_289 : Cond.fieldLink "OffOnTheSecond$Rows" 20 "OffOnTheSecond$Rows" "chosen" "LOffOnTheSecond$Line;" ∈ mx_TT := mx_in_c wk_275 14 rfl rfl
theorem w_290 : Cond.fieldLink "OffOnTheSecond" 255 "OffOnTheSecond$Rows" "chosen" "LOffOnTheSecond$Line;" ∈ mx_TT := mx_in_c wk_275 15 rfl rfl
theorem w_291 : Cond.fieldLink "OffOnTheSecond$Rows" 24 "OffOnTheSecond$Rows" "members" "LOffOnTheSecond$Line;" ∈ mx_TT := mx_in_c wk_275 16 rfl rfl
theorem w_292 : Cond.fieldLink "OffOnTheSecond$Rows" 27 "OffOnTheSecond$Rows" "likings" "LOffOnTheSecond$Line;" ∈ mx_TT := mx_in_c wk_275 17 rfl rfl
theorem w_293 : Cond.fieldLink "OffOnTheSecond$Rows" 30 "OffOnTheSecond$Rows" "best" "LOffOnTheSecond$Line;" ∈ mx_TT := mx_in_c wk_275 18 rfl rfl
theorem w_305 : Cond.classLink "OffOnTheSecond" 53 "OffOnTheSecond$Odds" ∈ mx_TT := mx_in_c wk_300 5 rfl rfl
theorem w_306 : Cond.instantiable "OffOnTheSecond$Odds" 3 ∈ mx_TT := mx_in_c wk_300 6 rfl rfl
theorem w_308 : Cond.instanceMethod yX2_init ∈ mx_TT := mx_in_c wk_300 8 rfl rfl
theorem w_309 : Cond.code yX2_init prog_4_method_1_code 1 none ∈ mx_TT := mx_in_c wk_300 9 rfl rfl
theorem w_310 : Cond.methodLink "OffOnTheSecond$Odds" 3 Lib.objectInit ∈ mx_TT := mx_in_c wk_300 10 rfl rfl
theorem w_311 : Cond.fieldLink "OffOnTheSecond$Odds" 9 "OffOnTheSecond$Odds" "above" "J" ∈ mx_TT := mx_in_c wk_300 11 rfl rfl
theorem w_312 : Cond.fieldLink "OffOnTheSecond" 259 "OffOnTheSecond$Odds" "above" "J" ∈ mx_TT := mx_in_c wk_300 12 rfl rfl
theorem w_313 : Cond.fieldLink "OffOnTheSecond$Odds" 15 "OffOnTheSecond$Odds" "below" "J" ∈ mx_TT := mx_in_c wk_300 13 rfl rfl
theorem w_314 : Cond.fieldLink "OffOnTheSecond" 263 "OffOnTheSecond$Odds" "below" "J" ∈ mx_TT := mx_in_c wk_300 14 rfl rfl
theorem w_315 : Cond.fieldLink "OffOnTheSecond$Odds" 18 "OffOnTheSecond$Odds" "ways" "[J" ∈ mx_TT := mx_in_c wk_300 15 rfl rfl
theorem w_323 : Cond.arrayClass .long ∈ mx_TT := mx_in_c wk_300 23 rfl rfl
theorem w_324 : Cond.classLink "OffOnTheSecond" 60 "OffOnTheSecond$Voices" ∈ mx_TT := mx_in_c wk_300 24 rfl rfl
theorem w_325 : Cond.instantiable "OffOnTheSecond$Voices" 5 ∈ mx_TT := mx_in_c wk_325 0 rfl rfl
theorem w_327 : Cond.instanceMethod yX9_init ∈ mx_TT := mx_in_c wk_325 2 rfl rfl
theorem w_328 : Cond.code yX9_init prog_11_method_1_code 1 none ∈ mx_TT := mx_in_c wk_325 3 rfl rfl
theorem w_329 : Cond.methodLink "OffOnTheSecond$Voices" 3 Lib.objectInit ∈ mx_TT := mx_in_c wk_325 4 rfl rfl
theorem w_330 : Cond.classLink "OffOnTheSecond$Voices" 9 "OffOnTheSecond$Line" ∈ mx_TT := mx_in_c wk_325 5 rfl rfl
theorem w_331 : Cond.methodLink "OffOnTheSecond$Voices" 11 yX1_init ∈ mx_TT := mx_in_c wk_325 6 rfl rfl
theorem w_332 : Cond.fieldLink "OffOnTheSecond$Voices" 14 "OffOnTheSecond$Voices" "trace" "LOffOnTheSecond$Line;" ∈ mx_TT := mx_in_c wk_325 7 rfl rfl
theorem w_333 : Cond.fieldLink "OffOnTheSecond" 292 "OffOnTheSecond$Voices" "trace" "LOffOnTheSecond$Line;" ∈ mx_TT := mx_in_c wk_325 8 rfl rfl
theorem w_334 : Cond.fieldLink "OffOnTheSecond$Voices" 20 "OffOnTheSecond$Voices" "parted" "Z" ∈ mx_TT := mx_in_c wk_325 9 rfl rfl
theorem w_335 : Cond.fieldLink "OffOnTheSecond" 288 "OffOnTheSecond$Voices" "parted" "Z" ∈ mx_TT := mx_in_c wk_325 10 rfl rfl
theorem w_336 : Cond.fieldLink "OffOnTheSecond$Voices" 24 "OffOnTheSecond$Voices" "kind" "I" ∈ mx_TT := mx_in_c wk_325 11 rfl rfl
theorem w_337 : Cond.fieldLink "OffOnTheSecond$Voices" 28 "OffOnTheSecond$Voices" "k" "I" ∈ mx_TT := mx_in_c wk_325 12 rfl rfl
theorem w_338 : Cond.fieldLink "OffOnTheSecond$Voices" 31 "OffOnTheSecond$Voices" "m" "I" ∈ mx_TT := mx_in_c wk_325 13 rfl rfl
theorem w_350 : Cond.classLink "OffOnTheSecond" 67 "OffOnTheSecond$Sheet" ∈ mx_TT := mx_in_c wk_350 0 rfl rfl
theorem w_352 : Cond.instantiable "OffOnTheSecond$Sheet" 2 ∈ mx_TT := mx_in_c wk_350 2 rfl rfl
theorem w_354 : Cond.instanceMethod yX6_init ∈ mx_TT := mx_in_c wk_350 4 rfl rfl
theorem w_355 : Cond.code yX6_init prog_8_method_1_code 1 none ∈ mx_TT := mx_in_c wk_350 5 rfl rfl
theorem w_356 : Cond.methodLink "OffOnTheSecond$Sheet" 3 Lib.objectInit ∈ mx_TT := mx_in_c wk_350 6 rfl rfl
theorem w_357 : Cond.classLink "OffOnTheSecond$Sheet" 15 "OffOnTheSecond$Line" ∈ mx_TT := mx_in_c wk_350 7 rfl rfl
theorem w_358 : Cond.methodLink "OffOnTheSecond$Sheet" 17 yX1_init ∈ mx_TT := mx_in_c wk_350 8 rfl rfl
theorem w_359 : Cond.fieldLink "OffOnTheSecond$Sheet" 9 "OffOnTheSecond$Sheet" "bits" "I" ∈ mx_TT := mx_in_c wk_350 9 rfl rfl
theorem w_360 : Cond.fieldLink "OffOnTheSecond" 301 "OffOnTheSecond$Sheet" "bits" "I" ∈ mx_TT := mx_in_c wk_350 10 rfl rfl
theorem w_361 : Cond.fieldLink "OffOnTheSecond$Sheet" 20 "OffOnTheSecond$Sheet" "numbers" "LOffOnTheSecond$Line;" ∈ mx_TT := mx_in_c wk_350 11 rfl rfl
theorem w_362 : Cond.fieldLink "OffOnTheSecond" 277 "OffOnTheSecond$Sheet" "numbers" "LOffOnTheSecond$Line;" ∈ mx_TT := mx_in_c wk_350 12 rfl rfl
theorem w_368 : Cond.fieldLink "OffOnTheSecond" 10 "OffOnTheSecond" "show" "LOffOnTheSecond$Show;" ∈ mx_TT := mx_in_c wk_350 18 rfl rfl
theorem w_369 : Cond.fieldLink "OffOnTheSecond" 16 "OffOnTheSecond" "kept" "LOffOnTheSecond$Show;" ∈ mx_TT := mx_in_c wk_350 19 rfl rfl
theorem w_370 : Cond.fieldLink "OffOnTheSecond" 19 "OffOnTheSecond" "images" "I" ∈ mx_TT := mx_in_c wk_350 20 rfl rfl
theorem w_371 : Cond.fieldLink "OffOnTheSecond" 28 "OffOnTheSecond" "errors" "LOffOnTheSecond$Line;" ∈ mx_TT := mx_in_c wk_350 21 rfl rfl
theorem w_372 : Cond.fieldLink "OffOnTheSecond" 35 "OffOnTheSecond" "reader" "LOffOnTheSecond$Reader;" ∈ mx_TT := mx_in_c wk_350 22 rfl rfl
theorem w_373 : Cond.fieldLink "OffOnTheSecond" 42 "OffOnTheSecond" "sets" "LOffOnTheSecond$Sets;" ∈ mx_TT := mx_in_c wk_350 23 rfl rfl
theorem w_374 : Cond.fieldLink "OffOnTheSecond" 49 "OffOnTheSecond" "rows" "LOffOnTheSecond$Rows;" ∈ mx_TT := mx_in_c wk_350 24 rfl rfl
theorem w_375 : Cond.fieldLink "OffOnTheSecond" 56 "OffOnTheSecond" "chances" "LOffOnTheSecond$Odds;" ∈ mx_TT := mx_in_c wk_375 0 rfl rfl
theorem w_376 : Cond.fieldLink "OffOnTheSecond" 63 "OffOnTheSecond" "voices" "LOffOnTheSecond$Voices;" ∈ mx_TT := mx_in_c wk_375 1 rfl rfl
theorem w_377 : Cond.fieldLink "OffOnTheSecond" 69 "OffOnTheSecond" "sheets" "[LOffOnTheSecond$Sheet;" ∈ mx_TT := mx_in_c wk_375 2 rfl rfl
theorem w_399 : Cond.methodLink "OffOnTheSecondLaw" 13 yX10_item ∈ mx_TT := mx_in_c wk_375 24 rfl rfl
theorem w_400 : Cond.instanceMethod yX10_item ∈ mx_TT := mx_in_c wk_400 0 rfl rfl
theorem w_401 : Cond.selects "OffOnTheSecond" yX10_item yX10_item ∈ mx_TT := mx_in_c wk_400 1 rfl rfl
theorem w_402 : Cond.code yX10_item prog_1_method_2_code 3 (some (.int)) ∈ mx_TT := mx_in_c wk_400 2 rfl rfl
theorem w_403 : Cond.methodLink "OffOnTheSecond" 74 yX10_isKm ∈ mx_TT := mx_in_c wk_400 3 rfl rfl
theorem w_404 : Cond.static yX10_isKm ∈ mx_TT := mx_in_c wk_400 4 rfl rfl
theorem w_405 : Cond.code yX10_isKm prog_1_method_46_code 1 (some (.boolean)) ∈ mx_TT := mx_in_c wk_400 5 rfl rfl
theorem w_406 : Cond.methodLink "OffOnTheSecond" 78 yX10_isTruth ∈ mx_TT := mx_in_c wk_400 6 rfl rfl
theorem w_407 : Cond.static yX10_isTruth ∈ mx_TT := mx_in_c wk_400 7 rfl rfl
theorem w_408 : Cond.code yX10_isTruth prog_1_method_47_code 1 (some (.boolean)) ∈ mx_TT := mx_in_c wk_400 8 rfl rfl
theorem w_409 : Cond.methodLink "OffOnTheSecond" 81 yX10_error ∈ mx_TT := mx_in_c wk_400 9 rfl rfl
theorem w_411 : Cond.instanceMethod yX10_error ∈ mx_TT := mx_in_c wk_400 11 rfl rfl
theorem w_412 : Cond.code yX10_error prog_1_method_42_code 2 (some (.int)) ∈ mx_TT := mx_in_c wk_400 12 rfl rfl
theorem w_413 : Cond.methodLink "OffOnTheSecond" 104 yX1_at ∈ mx_TT := mx_in_c wk_400 13 rfl rfl
theorem w_414 : Cond.instanceMethod yX1_at ∈ mx_TT := mx_in_c wk_400 14 rfl rfl
theorem w_415 : Cond.selects "OffOnTheSecond$Line" yX1_at yX1_at ∈ mx_TT := mx_in_c wk_400 15 rfl rfl
theorem w_416 : Cond.code yX1_at prog_3_method_4_code 2 (some (.int)) ∈ mx_TT := mx_in_c wk_400 16 rfl rfl
theorem w_417 : Cond.methodLink "OffOnTheSecond" 133 yX1_set ∈ mx_TT := mx_in_c wk_400 17 rfl rfl
theorem w_418 : Cond.instanceMethod yX1_set ∈ mx_TT := mx_in_c wk_400 18 rfl rfl
theorem w_419 : Cond.selects "OffOnTheSecond$Line" yX1_set yX1_set ∈ mx_TT := mx_in_c wk_400 19 rfl rfl
theorem w_420 : Cond.code yX1_set prog_3_method_5_code 3 none ∈ mx_TT := mx_in_c wk_400 20 rfl rfl
theorem w_421 : Cond.constant "OffOnTheSecond" 336 (-1000000000) ∈ mx_TT := mx_in_c wk_400 21 rfl rfl
theorem w_422 : Cond.methodLink "OffOnTheSecond" 94 yX0_append ∈ mx_TT := mx_in_c wk_400 22 rfl rfl
theorem w_423 : Cond.instanceMethod yX0_append ∈ mx_TT := mx_in_c wk_400 23 rfl rfl
theorem w_424 : Cond.selects "OffOnTheSecond$Items" yX0_append yX0_append ∈ mx_TT := mx_in_c wk_400 24 rfl rfl
theorem w_425 : Cond.code yX0_append prog_2_method_7_code 4 (some (.int)) ∈ mx_TT := mx_in_c wk_425 0 rfl rfl
theorem w_426 : Cond.methodLink "OffOnTheSecond$Items" 55 yX0_name ∈ mx_TT := mx_in_c wk_425 1 rfl rfl
theorem w_427 : Cond.instanceMethod yX0_name ∈ mx_TT := mx_in_c wk_425 2 rfl rfl
theorem w_428 : Cond.selects "OffOnTheSecond$Items" yX0_name yX0_name ∈ mx_TT := mx_in_c wk_425 3 rfl rfl
theorem w_429 : Cond.code yX0_name prog_2_method_8_code 3 none ∈ mx_TT := mx_in_c wk_425 4 rfl rfl
theorem w_430 : Cond.methodLink "OffOnTheSecond$Items" 59 yX1_set ∈ mx_TT := mx_in_c wk_425 5 rfl rfl
theorem w_431 : Cond.methodLink "OffOnTheSecondLaw" 18 yX10_itemIs ∈ mx_TT := mx_in_c wk_425 6 rfl rfl
theorem w_432 : Cond.instanceMethod yX10_itemIs ∈ mx_TT := mx_in_c wk_425 7 rfl rfl
theorem w_433 : Cond.selects "OffOnTheSecond" yX10_itemIs yX10_itemIs ∈ mx_TT := mx_in_c wk_425 8 rfl rfl
theorem w_434 : Cond.code yX10_itemIs prog_1_method_3_code 4 (some (.int)) ∈ mx_TT := mx_in_c wk_425 9 rfl rfl
theorem w_435 : Cond.methodLink "OffOnTheSecond" 98 yX0_has ∈ mx_TT := mx_in_c wk_425 10 rfl rfl
theorem w_436 : Cond.instanceMethod yX0_has ∈ mx_TT := mx_in_c wk_425 11 rfl rfl
theorem w_437 : Cond.selects "OffOnTheSecond$Items" yX0_has yX0_has ∈ mx_TT := mx_in_c wk_425 12 rfl rfl
theorem w_438 : Cond.code yX0_has prog_2_method_4_code 2 (some (.boolean)) ∈ mx_TT := mx_in_c wk_425 13 rfl rfl
theorem w_439 : Cond.methodLink "OffOnTheSecond" 113 yX0_least ∈ mx_TT := mx_in_c wk_425 14 rfl rfl
theorem w_440 : Cond.instanceMethod yX0_least ∈ mx_TT := mx_in_c wk_425 15 rfl rfl
theorem w_441 : Cond.selects "OffOnTheSecond$Items" yX0_least yX0_least ∈ mx_TT := mx_in_c wk_425 16 rfl rfl
theorem w_442 : Cond.code yX0_least prog_2_method_9_code 4 (some (.int)) ∈ mx_TT := mx_in_c wk_425 17 rfl rfl
theorem w_443 : Cond.methodLink "OffOnTheSecond$Items" 48 yX1_at ∈ mx_TT := mx_in_c wk_425 18 rfl rfl
theorem w_444 : Cond.methodLink "OffOnTheSecond$Items" 62 Lib.Math.min.name ∈ mx_TT := mx_in_c wk_425 19 rfl rfl
theorem w_445 : Cond.static Lib.Math.min.name ∈ mx_TT := mx_in_c wk_425 20 rfl rfl
theorem w_446 : Cond.code Lib.Math.min.name Lib.Math.min.code 2 (some .int) ∈ mx_TT := mx_in_c wk_425 21 rfl rfl
theorem w_447 : Cond.methodLink "OffOnTheSecond" 116 yX0_most ∈ mx_TT := mx_in_c wk_425 22 rfl rfl
theorem w_448 : Cond.instanceMethod yX0_most ∈ mx_TT := mx_in_c wk_425 23 rfl rfl
theorem w_449 : Cond.selects "OffOnTheSecond$Items" yX0_most yX0_most ∈ mx_TT := mx_in_c wk_425 24 rfl rfl
theorem w_450 : Cond.code yX0_most prog_2_method_10_code 4 (some (.int)) ∈ mx_TT := mx_in_c wk_450 0 rfl rfl
theorem w_451 : Cond.methodLink "OffOnTheSecond" 119 yX0_placeOf ∈ mx_TT := mx_in_c wk_450 1 rfl rfl
theorem w_452 : Cond.instanceMethod yX0_placeOf ∈ mx_TT := mx_in_c wk_450 2 rfl rfl
theorem w_453 : Cond.selects "OffOnTheSecond$Items" yX0_placeOf yX0_placeOf ∈ mx_TT := mx_in_c wk_450 3 rfl rfl
theorem w_454 : Cond.code yX0_placeOf prog_2_method_11_code 4 (some (.int)) ∈ mx_TT := mx_in_c wk_450 4 rfl rfl
theorem w_455 : Cond.methodLink "OffOnTheSecondLaw" 22 yX10_become ∈ mx_TT := mx_in_c wk_450 5 rfl rfl
theorem w_456 : Cond.instanceMethod yX10_become ∈ mx_TT := mx_in_c wk_450 6 rfl rfl
theorem w_457 : Cond.selects "OffOnTheSecond" yX10_become yX10_become ∈ mx_TT := mx_in_c wk_450 7 rfl rfl
theorem w_458 : Cond.code yX10_become prog_1_method_4_code 4 (some (.int)) ∈ mx_TT := mx_in_c wk_450 8 rfl rfl
theorem w_459 : Cond.methodLink "OffOnTheSecond" 125 yX0_name ∈ mx_TT := mx_in_c wk_450 9 rfl rfl
theorem w_460 : Cond.methodLink "OffOnTheSecondLaw" 26 yX10_as ∈ mx_TT := mx_in_c wk_450 10 rfl rfl
theorem w_461 : Cond.instanceMethod yX10_as ∈ mx_TT := mx_in_c wk_450 11 rfl rfl
theorem w_462 : Cond.selects "OffOnTheSecond" yX10_as yX10_as ∈ mx_TT := mx_in_c wk_450 12 rfl rfl
theorem w_463 : Cond.code yX10_as prog_1_method_5_code 3 (some (.int)) ∈ mx_TT := mx_in_c wk_450 13 rfl rfl
theorem w_464 : Cond.methodLink "OffOnTheSecond" 129 yX0_isOf ∈ mx_TT := mx_in_c wk_450 14 rfl rfl
theorem w_465 : Cond.instanceMethod yX0_isOf ∈ mx_TT := mx_in_c wk_450 15 rfl rfl
theorem w_466 : Cond.selects "OffOnTheSecond$Items" yX0_isOf yX0_isOf ∈ mx_TT := mx_in_c wk_450 16 rfl rfl
theorem w_467 : Cond.code yX0_isOf prog_2_method_6_code 3 (some (.boolean)) ∈ mx_TT := mx_in_c wk_450 17 rfl rfl
theorem w_468 : Cond.methodLink "OffOnTheSecond$Items" 51 yX0_isUnder ∈ mx_TT := mx_in_c wk_450 18 rfl rfl
theorem w_469 : Cond.static yX0_isUnder ∈ mx_TT := mx_in_c wk_450 19 rfl rfl
theorem w_470 : Cond.code yX0_isUnder prog_2_method_3_code 4 (some (.boolean)) ∈ mx_TT := mx_in_c wk_450 20 rfl rfl
theorem w_471 : Cond.methodLink "OffOnTheSecond$Items" 40 yX0_above ∈ mx_TT := mx_in_c wk_450 21 rfl rfl
theorem w_472 : Cond.static yX0_above ∈ mx_TT := mx_in_c wk_450 22 rfl rfl
theorem w_473 : Cond.code yX0_above prog_2_method_2_code 1 (some (.int)) ∈ mx_TT := mx_in_c wk_450 23 rfl rfl
theorem w_474 : Cond.fieldLink "OffOnTheSecond$Items" 36 "OffOnTheSecond$Items" "KIND_ABOVE" "[I" ∈ mx_TT := mx_in_c wk_450 24 rfl rfl
theorem w_476 : Cond.methodLink "OffOnTheSecondLaw" 30 yX10_truth ∈ mx_TT := mx_in_c wk_475 1 rfl rfl
theorem w_477 : Cond.instanceMethod yX10_truth ∈ mx_TT := mx_in_c wk_475 2 rfl rfl
theorem w_478 : Cond.selects "OffOnTheSecond" yX10_truth yX10_truth ∈ mx_TT := mx_in_c wk_475 3 rfl rfl
theorem w_479 : Cond.code yX10_truth prog_1_method_6_code 4 (some (.int)) ∈ mx_TT := mx_in_c wk_475 4 rfl rfl
theorem w_480 : Cond.methodLink "OffOnTheSecondLaw" 34 yX10_shift ∈ mx_TT := mx_in_c wk_475 5 rfl rfl
theorem w_481 : Cond.instanceMethod yX10_shift ∈ mx_TT := mx_in_c wk_475 6 rfl rfl
theorem w_482 : Cond.selects "OffOnTheSecond" yX10_shift yX10_shift ∈ mx_TT := mx_in_c wk_475 7 rfl rfl
theorem w_483 : Cond.code yX10_shift prog_1_method_7_code 3 (some (.int)) ∈ mx_TT := mx_in_c wk_475 8 rfl rfl
theorem w_484 : Cond.methodLink "OffOnTheSecond" 136 yX0_isLeft ∈ mx_TT := mx_in_c wk_475 9 rfl rfl
theorem w_485 : Cond.instanceMethod yX0_isLeft ∈ mx_TT := mx_in_c wk_475 10 rfl rfl
theorem w_486 : Cond.selects "OffOnTheSecond$Items" yX0_isLeft yX0_isLeft ∈ mx_TT := mx_in_c wk_475 11 rfl rfl
theorem w_487 : Cond.code yX0_isLeft prog_2_method_5_code 2 (some (.boolean)) ∈ mx_TT := mx_in_c wk_475 12 rfl rfl
theorem w_488 : Cond.methodLink "OffOnTheSecond$Items" 44 yX0_has ∈ mx_TT := mx_in_c wk_475 13 rfl rfl
theorem w_489 : Cond.methodLink "OffOnTheSecond" 139 yX0_bringTo ∈ mx_TT := mx_in_c wk_475 14 rfl rfl
theorem w_490 : Cond.instanceMethod yX0_bringTo ∈ mx_TT := mx_in_c wk_475 15 rfl rfl
theorem w_491 : Cond.selects "OffOnTheSecond$Items" yX0_bringTo yX0_bringTo ∈ mx_TT := mx_in_c wk_475 16 rfl rfl
theorem w_492 : Cond.code yX0_bringTo prog_2_method_12_code 5 (some (.int)) ∈ mx_TT := mx_in_c wk_475 17 rfl rfl
theorem w_493 : Cond.methodLink "OffOnTheSecond$Items" 68 yX0_placeOf ∈ mx_TT := mx_in_c wk_475 18 rfl rfl
theorem w_494 : Cond.methodLink "OffOnTheSecondLaw" 38 yX10_clock ∈ mx_TT := mx_in_c wk_475 19 rfl rfl
theorem w_495 : Cond.instanceMethod yX10_clock ∈ mx_TT := mx_in_c wk_475 20 rfl rfl
theorem w_496 : Cond.selects "OffOnTheSecond" yX10_clock yX10_clock ∈ mx_TT := mx_in_c wk_475 21 rfl rfl
theorem w_497 : Cond.code yX10_clock prog_1_method_8_code 3 (some (.int)) ∈ mx_TT := mx_in_c wk_475 22 rfl rfl
theorem w_498 : Cond.methodLink "OffOnTheSecond" 142 yX7_setClock ∈ mx_TT := mx_in_c wk_475 23 rfl rfl
theorem w_499 : Cond.instanceMethod yX7_setClock ∈ mx_TT := mx_in_c wk_475 24 rfl rfl
theorem w_500 : Cond.selects "OffOnTheSecond$Show" yX7_setClock yX7_setClock ∈ mx_TT := mx_in_c wk_500 0 rfl rfl
theorem w_501 : Cond.code yX7_setClock prog_9_method_2_code 4 (some (.int)) ∈ mx_TT := mx_in_c wk_500 1 rfl rfl
theorem w_502 : Cond.methodLink "OffOnTheSecondLaw" 44 yX10_feed ∈ mx_TT := mx_in_c wk_500 2 rfl rfl
theorem w_503 : Cond.instanceMethod yX10_feed ∈ mx_TT := mx_in_c wk_500 3 rfl rfl
theorem w_504 : Cond.selects "OffOnTheSecond" yX10_feed yX10_feed ∈ mx_TT := mx_in_c wk_500 4 rfl rfl
theorem w_505 : Cond.code yX10_feed prog_1_method_9_code 5 (some (.int)) ∈ mx_TT := mx_in_c wk_500 5 rfl rfl
theorem w_506 : Cond.methodLink "OffOnTheSecond" 148 yX1_hasRoom ∈ mx_TT := mx_in_c wk_500 6 rfl rfl
theorem w_507 : Cond.instanceMethod yX1_hasRoom ∈ mx_TT := mx_in_c wk_500 7 rfl rfl
theorem w_508 : Cond.selects "OffOnTheSecond$Line" yX1_hasRoom yX1_hasRoom ∈ mx_TT := mx_in_c wk_500 8 rfl rfl
theorem w_509 : Cond.code yX1_hasRoom prog_3_method_2_code 2 (some (.boolean)) ∈ mx_TT := mx_in_c wk_500 9 rfl rfl
theorem w_510 : Cond.constantLong "OffOnTheSecond" 151 (255) ∈ mx_TT := mx_in_c wk_500 10 rfl rfl
theorem w_511 : Cond.methodLink "OffOnTheSecond" 153 yX1_append ∈ mx_TT := mx_in_c wk_500 11 rfl rfl
theorem w_512 : Cond.instanceMethod yX1_append ∈ mx_TT := mx_in_c wk_500 12 rfl rfl
theorem w_513 : Cond.selects "OffOnTheSecond$Line" yX1_append yX1_append ∈ mx_TT := mx_in_c wk_500 13 rfl rfl
theorem w_514 : Cond.code yX1_append prog_3_method_6_code 2 none ∈ mx_TT := mx_in_c wk_500 14 rfl rfl
theorem w_515 : Cond.methodLink "OffOnTheSecondLaw" 49 yX10_text ∈ mx_TT := mx_in_c wk_500 15 rfl rfl
theorem w_516 : Cond.instanceMethod yX10_text ∈ mx_TT := mx_in_c wk_500 16 rfl rfl
theorem w_517 : Cond.selects "OffOnTheSecond" yX10_text yX10_text ∈ mx_TT := mx_in_c wk_500 17 rfl rfl
theorem w_518 : Cond.code yX10_text prog_1_method_10_code 3 (some (.int)) ∈ mx_TT := mx_in_c wk_500 18 rfl rfl
theorem w_519 : Cond.methodLink "OffOnTheSecond" 156 yX10_isUse ∈ mx_TT := mx_in_c wk_500 19 rfl rfl
theorem w_520 : Cond.static yX10_isUse ∈ mx_TT := mx_in_c wk_500 20 rfl rfl
theorem w_521 : Cond.code yX10_isUse prog_1_method_48_code 1 (some (.boolean)) ∈ mx_TT := mx_in_c wk_500 21 rfl rfl
theorem w_522 : Cond.methodLink "OffOnTheSecond" 159 yX3_faultOf ∈ mx_TT := mx_in_c wk_500 22 rfl rfl
theorem w_523 : Cond.instanceMethod yX3_faultOf ∈ mx_TT := mx_in_c wk_500 23 rfl rfl
theorem w_524 : Cond.selects "OffOnTheSecond$Reader" yX3_faultOf yX3_faultOf ∈ mx_TT := mx_in_c wk_500 24 rfl rfl
theorem w_525 : Cond.code yX3_faultOf prog_5_method_2_code 4 (some (.int)) ∈ mx_TT := mx_in_c wk_525 0 rfl rfl
theorem w_526 : Cond.methodLink "OffOnTheSecond$Reader" 34 yX1_clear ∈ mx_TT := mx_in_c wk_525 1 rfl rfl
theorem w_527 : Cond.instanceMethod yX1_clear ∈ mx_TT := mx_in_c wk_525 2 rfl rfl
theorem w_528 : Cond.selects "OffOnTheSecond$Line" yX1_clear yX1_clear ∈ mx_TT := mx_in_c wk_525 3 rfl rfl
theorem w_529 : Cond.code yX1_clear prog_3_method_9_code 1 none ∈ mx_TT := mx_in_c wk_525 4 rfl rfl
theorem w_530 : Cond.methodLink "OffOnTheSecond$Reader" 40 yX1_at ∈ mx_TT := mx_in_c wk_525 5 rfl rfl
theorem w_531 : Cond.methodLink "OffOnTheSecond$Reader" 44 yX3_takes ∈ mx_TT := mx_in_c wk_525 6 rfl rfl
theorem w_533 : Cond.instanceMethod yX3_takes ∈ mx_TT := mx_in_c wk_525 8 rfl rfl
theorem w_534 : Cond.code yX3_takes prog_5_method_3_code 3 (some (.boolean)) ∈ mx_TT := mx_in_c wk_525 9 rfl rfl
theorem w_535 : Cond.methodLink "OffOnTheSecond$Reader" 52 yX3_takesDigit ∈ mx_TT := mx_in_c wk_525 10 rfl rfl
theorem w_537 : Cond.instanceMethod yX3_takesDigit ∈ mx_TT := mx_in_c wk_525 12 rfl rfl
theorem w_538 : Cond.code yX3_takesDigit prog_5_method_4_code 3 (some (.boolean)) ∈ mx_TT := mx_in_c wk_525 13 rfl rfl
theorem w_539 : Cond.methodLink "OffOnTheSecond$Reader" 62 yX1_takeLast ∈ mx_TT := mx_in_c wk_525 14 rfl rfl
theorem w_540 : Cond.instanceMethod yX1_takeLast ∈ mx_TT := mx_in_c wk_525 15 rfl rfl
theorem w_541 : Cond.selects "OffOnTheSecond$Line" yX1_takeLast yX1_takeLast ∈ mx_TT := mx_in_c wk_525 16 rfl rfl
theorem w_542 : Cond.code yX1_takeLast prog_3_method_8_code 1 (some (.int)) ∈ mx_TT := mx_in_c wk_525 17 rfl rfl
theorem w_543 : Cond.methodLink "OffOnTheSecond$Reader" 66 yX1_append ∈ mx_TT := mx_in_c wk_525 18 rfl rfl
theorem w_544 : Cond.methodLink "OffOnTheSecond$Reader" 56 yX3_takesStart ∈ mx_TT := mx_in_c wk_525 19 rfl rfl
theorem w_546 : Cond.instanceMethod yX3_takesStart ∈ mx_TT := mx_in_c wk_525 21 rfl rfl
theorem w_547 : Cond.code yX3_takesStart prog_5_method_5_code 4 (some (.boolean)) ∈ mx_TT := mx_in_c wk_525 22 rfl rfl
theorem w_548 : Cond.methodLink "OffOnTheSecond$Reader" 69 yX3_nameOf ∈ mx_TT := mx_in_c wk_525 23 rfl rfl
theorem w_549 : Cond.static yX3_nameOf ∈ mx_TT := mx_in_c wk_525 24 rfl rfl
theorem w_550 : Cond.code yX3_nameOf prog_5_method_11_code 4 (some (.int)) ∈ mx_TT := mx_in_c wk_550 0 rfl rfl
theorem w_551 : Cond.fieldLink "OffOnTheSecond$Reader" 85 "OffOnTheSecond$Reader" "WORTH_NAMES" "[C" ∈ mx_TT := mx_in_c wk_550 1 rfl rfl
theorem w_553 : Cond.fieldLink "OffOnTheSecond$Reader" 89 "OffOnTheSecond$Reader" "LIKED_NAMES" "[C" ∈ mx_TT := mx_in_c wk_550 3 rfl rfl
theorem w_555 : Cond.methodLink "OffOnTheSecond$Reader" 59 yX3_takesNext ∈ mx_TT := mx_in_c wk_550 5 rfl rfl
theorem w_557 : Cond.instanceMethod yX3_takesNext ∈ mx_TT := mx_in_c wk_550 7 rfl rfl
theorem w_558 : Cond.code yX3_takesNext prog_5_method_6_code 3 (some (.boolean)) ∈ mx_TT := mx_in_c wk_550 8 rfl rfl
theorem w_559 : Cond.methodLink "OffOnTheSecond$Reader" 73 yX3_closes ∈ mx_TT := mx_in_c wk_550 9 rfl rfl
theorem w_561 : Cond.instanceMethod yX3_closes ∈ mx_TT := mx_in_c wk_550 11 rfl rfl
theorem w_562 : Cond.code yX3_closes prog_5_method_7_code 1 (some (.boolean)) ∈ mx_TT := mx_in_c wk_550 12 rfl rfl
theorem w_563 : Cond.methodLink "OffOnTheSecond$Reader" 79 yX3_settle ∈ mx_TT := mx_in_c wk_550 13 rfl rfl
theorem w_565 : Cond.instanceMethod yX3_settle ∈ mx_TT := mx_in_c wk_550 15 rfl rfl
theorem w_566 : Cond.code yX3_settle prog_5_method_9_code 4 none ∈ mx_TT := mx_in_c wk_550 16 rfl rfl
theorem w_567 : Cond.methodLink "OffOnTheSecond$Reader" 82 yX1_last ∈ mx_TT := mx_in_c wk_550 17 rfl rfl
theorem w_568 : Cond.instanceMethod yX1_last ∈ mx_TT := mx_in_c wk_550 18 rfl rfl
theorem w_569 : Cond.selects "OffOnTheSecond$Line" yX1_last yX1_last ∈ mx_TT := mx_in_c wk_550 19 rfl rfl
theorem w_570 : Cond.code yX1_last prog_3_method_7_code 1 (some (.int)) ∈ mx_TT := mx_in_c wk_550 20 rfl rfl
theorem w_571 : Cond.methodLink "OffOnTheSecond$Reader" 76 yX3_rankOf ∈ mx_TT := mx_in_c wk_550 21 rfl rfl
theorem w_572 : Cond.static yX3_rankOf ∈ mx_TT := mx_in_c wk_550 22 rfl rfl
theorem w_573 : Cond.code yX3_rankOf prog_5_method_10_code 1 (some (.int)) ∈ mx_TT := mx_in_c wk_550 23 rfl rfl
theorem w_574 : Cond.methodLink "OffOnTheSecond$Reader" 48 yX3_isWhole ∈ mx_TT := mx_in_c wk_550 24 rfl rfl
theorem w_576 : Cond.instanceMethod yX3_isWhole ∈ mx_TT := mx_in_c wk_575 1 rfl rfl
theorem w_577 : Cond.code yX3_isWhole prog_5_method_8_code 1 (some (.boolean)) ∈ mx_TT := mx_in_c wk_575 2 rfl rfl
theorem w_578 : Cond.methodLink "OffOnTheSecond" 163 yX1_clear ∈ mx_TT := mx_in_c wk_575 3 rfl rfl
theorem w_579 : Cond.methodLink "OffOnTheSecond" 166 yX7_textOf ∈ mx_TT := mx_in_c wk_575 4 rfl rfl
theorem w_580 : Cond.instanceMethod yX7_textOf ∈ mx_TT := mx_in_c wk_575 5 rfl rfl
theorem w_581 : Cond.selects "OffOnTheSecond$Show" yX7_textOf yX7_textOf ∈ mx_TT := mx_in_c wk_575 6 rfl rfl
theorem w_582 : Cond.code yX7_textOf prog_9_method_11_code 2 (some (.object "OffOnTheSecond$Text")) ∈ mx_TT := mx_in_c wk_575 7 rfl rfl
theorem w_583 : Cond.methodLink "OffOnTheSecond" 173 yX8_learn ∈ mx_TT := mx_in_c wk_575 8 rfl rfl
theorem w_584 : Cond.instanceMethod yX8_learn ∈ mx_TT := mx_in_c wk_575 9 rfl rfl
theorem w_585 : Cond.selects "OffOnTheSecond$Text" yX8_learn yX8_learn ∈ mx_TT := mx_in_c wk_575 10 rfl rfl
theorem w_586 : Cond.code yX8_learn prog_10_method_2_code 2 none ∈ mx_TT := mx_in_c wk_575 11 rfl rfl
theorem w_587 : Cond.methodLink "OffOnTheSecond$Text" 27 yX1_takeFrom ∈ mx_TT := mx_in_c wk_575 12 rfl rfl
theorem w_588 : Cond.instanceMethod yX1_takeFrom ∈ mx_TT := mx_in_c wk_575 13 rfl rfl
theorem w_589 : Cond.selects "OffOnTheSecond$Line" yX1_takeFrom yX1_takeFrom ∈ mx_TT := mx_in_c wk_575 14 rfl rfl
theorem w_590 : Cond.code yX1_takeFrom prog_3_method_10_code 3 none ∈ mx_TT := mx_in_c wk_575 15 rfl rfl
theorem w_591 : Cond.methodLink "OffOnTheSecond$Line" 23 yX1_at ∈ mx_TT := mx_in_c wk_575 16 rfl rfl
theorem w_592 : Cond.methodLink "OffOnTheSecond$Line" 27 Lib.Math.min.name ∈ mx_TT := mx_in_c wk_575 17 rfl rfl
theorem w_593 : Cond.methodLink "OffOnTheSecondLaw" 54 yX10_untell ∈ mx_TT := mx_in_c wk_575 18 rfl rfl
theorem w_594 : Cond.instanceMethod yX10_untell ∈ mx_TT := mx_in_c wk_575 19 rfl rfl
theorem w_595 : Cond.selects "OffOnTheSecond" yX10_untell yX10_untell ∈ mx_TT := mx_in_c wk_575 20 rfl rfl
theorem w_596 : Cond.code yX10_untell prog_1_method_11_code 2 (some (.int)) ∈ mx_TT := mx_in_c wk_575 21 rfl rfl
theorem w_597 : Cond.methodLink "OffOnTheSecond" 179 yX8_forget ∈ mx_TT := mx_in_c wk_575 22 rfl rfl
theorem w_598 : Cond.instanceMethod yX8_forget ∈ mx_TT := mx_in_c wk_575 23 rfl rfl
theorem w_599 : Cond.selects "OffOnTheSecond$Text" yX8_forget yX8_forget ∈ mx_TT := mx_in_c wk_575 24 rfl rfl
theorem w_600 : Cond.code yX8_forget prog_10_method_3_code 2 (some (.boolean)) ∈ mx_TT := mx_in_c wk_600 0 rfl rfl
theorem w_601 : Cond.methodLink "OffOnTheSecondLaw" 58 yX10_law ∈ mx_TT := mx_in_c wk_600 1 rfl rfl
theorem w_602 : Cond.instanceMethod yX10_law ∈ mx_TT := mx_in_c wk_600 2 rfl rfl
theorem w_603 : Cond.selects "OffOnTheSecond" yX10_law yX10_law ∈ mx_TT := mx_in_c wk_600 3 rfl rfl
theorem w_604 : Cond.code yX10_law prog_1_method_12_code 5 (some (.int)) ∈ mx_TT := mx_in_c wk_600 4 rfl rfl
theorem w_605 : Cond.methodLink "OffOnTheSecond" 183 yX7_worthBy ∈ mx_TT := mx_in_c wk_600 5 rfl rfl
theorem w_606 : Cond.instanceMethod yX7_worthBy ∈ mx_TT := mx_in_c wk_600 6 rfl rfl
theorem w_607 : Cond.selects "OffOnTheSecond$Show" yX7_worthBy yX7_worthBy ∈ mx_TT := mx_in_c wk_600 7 rfl rfl
theorem w_608 : Cond.code yX7_worthBy prog_9_method_12_code 4 (some (.int)) ∈ mx_TT := mx_in_c wk_600 8 rfl rfl
theorem w_609 : Cond.methodLink "OffOnTheSecond$Show" 119 yX8_give ∈ mx_TT := mx_in_c wk_600 9 rfl rfl
theorem w_610 : Cond.instanceMethod yX8_give ∈ mx_TT := mx_in_c wk_600 10 rfl rfl
theorem w_611 : Cond.selects "OffOnTheSecond$Text" yX8_give yX8_give ∈ mx_TT := mx_in_c wk_600 11 rfl rfl
theorem w_612 : Cond.code yX8_give prog_10_method_4_code 8 (some (.int)) ∈ mx_TT := mx_in_c wk_600 12 rfl rfl
theorem w_613 : Cond.methodLink "OffOnTheSecond$Text" 31 yX1_clear ∈ mx_TT := mx_in_c wk_600 13 rfl rfl
theorem w_614 : Cond.methodLink "OffOnTheSecond$Text" 38 yX1_at ∈ mx_TT := mx_in_c wk_600 14 rfl rfl
theorem w_615 : Cond.methodLink "OffOnTheSecond$Text" 42 yX1_append ∈ mx_TT := mx_in_c wk_600 15 rfl rfl
theorem w_616 : Cond.methodLink "OffOnTheSecond$Text" 45 yX1_takeLast ∈ mx_TT := mx_in_c wk_600 16 rfl rfl
theorem w_617 : Cond.methodLink "OffOnTheSecond$Text" 49 yX8_joined ∈ mx_TT := mx_in_c wk_600 17 rfl rfl
theorem w_618 : Cond.static yX8_joined ∈ mx_TT := mx_in_c wk_600 18 rfl rfl
theorem w_619 : Cond.code yX8_joined prog_10_method_5_code 3 (some (.int)) ∈ mx_TT := mx_in_c wk_600 19 rfl rfl
theorem w_621 : Cond.static yX10_within ∈ mx_TT := mx_in_c wk_600 21 rfl rfl
theorem w_622 : Cond.code yX10_within prog_1_method_49_code 3 (some (.int)) ∈ mx_TT := mx_in_c wk_600 22 rfl rfl
theorem w_623 : Cond.methodLink "OffOnTheSecond" 337 Lib.Math.min.name ∈ mx_TT := mx_in_c wk_600 23 rfl rfl
theorem w_624 : Cond.methodLink "OffOnTheSecond" 342 Lib.Math.max.name ∈ mx_TT := mx_in_c wk_600 24 rfl rfl
theorem w_625 : Cond.methodLink "OffOnTheSecond" 187 yX7_likingBy ∈ mx_TT := mx_in_c wk_625 0 rfl rfl
theorem w_626 : Cond.instanceMethod yX7_likingBy ∈ mx_TT := mx_in_c wk_625 1 rfl rfl
theorem w_627 : Cond.selects "OffOnTheSecond$Show" yX7_likingBy yX7_likingBy ∈ mx_TT := mx_in_c wk_625 2 rfl rfl
theorem w_628 : Cond.code yX7_likingBy prog_9_method_13_code 4 (some (.int)) ∈ mx_TT := mx_in_c wk_625 3 rfl rfl
theorem w_629 : Cond.methodLink "OffOnTheSecondLaw" 63 yX10_air ∈ mx_TT := mx_in_c wk_625 4 rfl rfl
theorem w_630 : Cond.instanceMethod yX10_air ∈ mx_TT := mx_in_c wk_625 5 rfl rfl
theorem w_631 : Cond.selects "OffOnTheSecond" yX10_air yX10_air ∈ mx_TT := mx_in_c wk_625 6 rfl rfl
theorem w_632 : Cond.code yX10_air prog_1_method_13_code 3 (some (.int)) ∈ mx_TT := mx_in_c wk_625 7 rfl rfl
theorem w_633 : Cond.methodLink "OffOnTheSecond" 190 yX0_on ∈ mx_TT := mx_in_c wk_625 8 rfl rfl
theorem w_634 : Cond.instanceMethod yX0_on ∈ mx_TT := mx_in_c wk_625 9 rfl rfl
theorem w_635 : Cond.selects "OffOnTheSecond$Items" yX0_on yX0_on ∈ mx_TT := mx_in_c wk_625 10 rfl rfl
theorem w_636 : Cond.code yX0_on prog_2_method_13_code 2 (some (.int)) ∈ mx_TT := mx_in_c wk_625 11 rfl rfl
theorem w_637 : Cond.methodLink "OffOnTheSecond$Items" 71 yX0_isLeft ∈ mx_TT := mx_in_c wk_625 12 rfl rfl
theorem w_638 : Cond.methodLink "OffOnTheSecond" 197 yX7_finish ∈ mx_TT := mx_in_c wk_625 13 rfl rfl
theorem w_639 : Cond.instanceMethod yX7_finish ∈ mx_TT := mx_in_c wk_625 14 rfl rfl
theorem w_640 : Cond.selects "OffOnTheSecond$Show" yX7_finish yX7_finish ∈ mx_TT := mx_in_c wk_625 15 rfl rfl
theorem w_641 : Cond.code yX7_finish prog_9_method_5_code 3 (some (.int)) ∈ mx_TT := mx_in_c wk_625 16 rfl rfl
theorem w_642 : Cond.methodLink "OffOnTheSecond$Show" 66 yX1_set ∈ mx_TT := mx_in_c wk_625 17 rfl rfl
theorem w_643 : Cond.methodLink "OffOnTheSecondLaw" 67 yX10_breaks ∈ mx_TT := mx_in_c wk_625 18 rfl rfl
theorem w_644 : Cond.instanceMethod yX10_breaks ∈ mx_TT := mx_in_c wk_625 19 rfl rfl
theorem w_645 : Cond.selects "OffOnTheSecond" yX10_breaks yX10_breaks ∈ mx_TT := mx_in_c wk_625 20 rfl rfl
theorem w_646 : Cond.code yX10_breaks prog_1_method_14_code 2 (some (.int)) ∈ mx_TT := mx_in_c wk_625 21 rfl rfl
theorem w_647 : Cond.methodLink "OffOnTheSecondLaw" 71 yX10_drop ∈ mx_TT := mx_in_c wk_625 22 rfl rfl
theorem w_648 : Cond.instanceMethod yX10_drop ∈ mx_TT := mx_in_c wk_625 23 rfl rfl
theorem w_649 : Cond.selects "OffOnTheSecond" yX10_drop yX10_drop ∈ mx_TT := mx_in_c wk_625 24 rfl rfl
theorem w_650 : Cond.code yX10_drop prog_1_method_15_code 2 (some (.int)) ∈ mx_TT := mx_in_c wk_650 0 rfl rfl
theorem w_651 : Cond.methodLink "OffOnTheSecond" 200 yX0_howManyLeft ∈ mx_TT := mx_in_c wk_650 1 rfl rfl
theorem w_652 : Cond.instanceMethod yX0_howManyLeft ∈ mx_TT := mx_in_c wk_650 2 rfl rfl
theorem w_653 : Cond.selects "OffOnTheSecond$Items" yX0_howManyLeft yX0_howManyLeft ∈ mx_TT := mx_in_c wk_650 3 rfl rfl
theorem w_654 : Cond.code yX0_howManyLeft prog_2_method_15_code 1 (some (.int)) ∈ mx_TT := mx_in_c wk_650 4 rfl rfl
theorem w_655 : Cond.methodLink "OffOnTheSecond$Items" 74 yX0_leftSet ∈ mx_TT := mx_in_c wk_650 5 rfl rfl
theorem w_656 : Cond.instanceMethod yX0_leftSet ∈ mx_TT := mx_in_c wk_650 6 rfl rfl
theorem w_657 : Cond.selects "OffOnTheSecond$Items" yX0_leftSet yX0_leftSet ∈ mx_TT := mx_in_c wk_650 7 rfl rfl
theorem w_658 : Cond.code yX0_leftSet prog_2_method_14_code 3 (some (.int)) ∈ mx_TT := mx_in_c wk_650 8 rfl rfl
theorem w_659 : Cond.methodLink "OffOnTheSecond$Items" 78 yJ6_bitCount_0f7a4 ∈ mx_TT := mx_in_c wk_650 9 rfl rfl
theorem w_660 : Cond.static yJ6_bitCount_0f7a4 ∈ mx_TT := mx_in_c wk_650 10 rfl rfl
theorem w_661 : Cond.code yJ6_bitCount_0f7a4 prog_14_method_49_code 1 (some (.int)) ∈ mx_TT := mx_in_c wk_650 11 rfl rfl
theorem w_662 : Cond.constant "java/lang/Integer" 265 (1431655765) ∈ mx_TT := mx_in_c wk_650 12 rfl rfl
theorem w_663 : Cond.constant "java/lang/Integer" 266 (858993459) ∈ mx_TT := mx_in_c wk_650 13 rfl rfl
theorem w_664 : Cond.constant "java/lang/Integer" 267 (252645135) ∈ mx_TT := mx_in_c wk_650 14 rfl rfl
theorem w_665 : Cond.methodLink "OffOnTheSecondLaw" 75 yX10_loose ∈ mx_TT := mx_in_c wk_650 15 rfl rfl
theorem w_666 : Cond.instanceMethod yX10_loose ∈ mx_TT := mx_in_c wk_650 16 rfl rfl
theorem w_667 : Cond.selects "OffOnTheSecond" yX10_loose yX10_loose ∈ mx_TT := mx_in_c wk_650 17 rfl rfl
theorem w_668 : Cond.code yX10_loose prog_1_method_16_code 4 (some (.int)) ∈ mx_TT := mx_in_c wk_650 18 rfl rfl
theorem w_669 : Cond.methodLink "OffOnTheSecond" 203 yX7_finishesOneByDraw ∈ mx_TT := mx_in_c wk_650 19 rfl rfl
theorem w_670 : Cond.instanceMethod yX7_finishesOneByDraw ∈ mx_TT := mx_in_c wk_650 20 rfl rfl
theorem w_671 : Cond.selects "OffOnTheSecond$Show" yX7_finishesOneByDraw yX7_finishesOneByDraw ∈ mx_TT := mx_in_c wk_650 21 rfl rfl
theorem w_672 : Cond.code yX7_finishesOneByDraw prog_9_method_6_code 5 (some (.boolean)) ∈ mx_TT := mx_in_c wk_650 22 rfl rfl
theorem w_673 : Cond.methodLink "OffOnTheSecond$Show" 70 yX0_on ∈ mx_TT := mx_in_c wk_650 23 rfl rfl
theorem w_674 : Cond.methodLink "OffOnTheSecond$Show" 73 yX0_least ∈ mx_TT := mx_in_c wk_650 24 rfl rfl
theorem w_675 : Cond.methodLink "OffOnTheSecond$Show" 77 yX0_most ∈ mx_TT := mx_in_c wk_675 0 rfl rfl
theorem w_676 : Cond.methodLink "OffOnTheSecond$Show" 80 Lib.Math.max.name ∈ mx_TT := mx_in_c wk_675 1 rfl rfl
theorem w_677 : Cond.methodLink "OffOnTheSecond$Show" 86 yX7_draw ∈ mx_TT := mx_in_c wk_675 2 rfl rfl
theorem w_679 : Cond.instanceMethod yX7_draw ∈ mx_TT := mx_in_c wk_675 4 rfl rfl
theorem w_680 : Cond.code yX7_draw prog_9_method_7_code 1 (some (.int)) ∈ mx_TT := mx_in_c wk_675 5 rfl rfl
theorem w_681 : Cond.constant "OffOnTheSecond$Show" 92 (1103515245) ∈ mx_TT := mx_in_c wk_675 6 rfl rfl
theorem w_682 : Cond.methodLink "OffOnTheSecond$Show" 89 yX7_finish ∈ mx_TT := mx_in_c wk_675 7 rfl rfl
theorem w_683 : Cond.methodLink "OffOnTheSecondLaw" 79 yX10_anew ∈ mx_TT := mx_in_c wk_675 8 rfl rfl
theorem w_684 : Cond.instanceMethod yX10_anew ∈ mx_TT := mx_in_c wk_675 9 rfl rfl
theorem w_685 : Cond.selects "OffOnTheSecond" yX10_anew yX10_anew ∈ mx_TT := mx_in_c wk_675 10 rfl rfl
theorem w_686 : Cond.code yX10_anew prog_1_method_17_code 1 (some (.int)) ∈ mx_TT := mx_in_c wk_675 11 rfl rfl
theorem w_687 : Cond.methodLink "OffOnTheSecond" 206 yX0_bringBackDone ∈ mx_TT := mx_in_c wk_675 12 rfl rfl
theorem w_688 : Cond.instanceMethod yX0_bringBackDone ∈ mx_TT := mx_in_c wk_675 13 rfl rfl
theorem w_689 : Cond.selects "OffOnTheSecond$Items" yX0_bringBackDone yX0_bringBackDone ∈ mx_TT := mx_in_c wk_675 14 rfl rfl
theorem w_690 : Cond.code yX0_bringBackDone prog_2_method_21_code 2 none ∈ mx_TT := mx_in_c wk_675 15 rfl rfl
theorem w_691 : Cond.methodLink "OffOnTheSecondLaw" 84 yX10_seed ∈ mx_TT := mx_in_c wk_675 16 rfl rfl
theorem w_692 : Cond.instanceMethod yX10_seed ∈ mx_TT := mx_in_c wk_675 17 rfl rfl
theorem w_693 : Cond.selects "OffOnTheSecond" yX10_seed yX10_seed ∈ mx_TT := mx_in_c wk_675 18 rfl rfl
theorem w_694 : Cond.code yX10_seed prog_1_method_18_code 3 (some (.int)) ∈ mx_TT := mx_in_c wk_675 19 rfl rfl
theorem w_695 : Cond.methodLink "OffOnTheSecondLaw" 88 yX10_over ∈ mx_TT := mx_in_c wk_675 20 rfl rfl
theorem w_696 : Cond.instanceMethod yX10_over ∈ mx_TT := mx_in_c wk_675 21 rfl rfl
theorem w_697 : Cond.selects "OffOnTheSecond" yX10_over yX10_over ∈ mx_TT := mx_in_c wk_675 22 rfl rfl
theorem w_698 : Cond.code yX10_over prog_1_method_19_code 1 (some (.int)) ∈ mx_TT := mx_in_c wk_675 23 rfl rfl
theorem w_699 : Cond.methodLink "OffOnTheSecond" 212 yX0_trueOfLeft ∈ mx_TT := mx_in_c wk_675 24 rfl rfl
theorem w_700 : Cond.instanceMethod yX0_trueOfLeft ∈ mx_TT := mx_in_c wk_700 0 rfl rfl
theorem w_701 : Cond.selects "OffOnTheSecond$Items" yX0_trueOfLeft yX0_trueOfLeft ∈ mx_TT := mx_in_c wk_700 1 rfl rfl
theorem w_702 : Cond.code yX0_trueOfLeft prog_2_method_16_code 3 (some (.int)) ∈ mx_TT := mx_in_c wk_700 2 rfl rfl
theorem w_703 : Cond.methodLink "OffOnTheSecond" 215 yX7_there ∈ mx_TT := mx_in_c wk_700 3 rfl rfl
theorem w_704 : Cond.instanceMethod yX7_there ∈ mx_TT := mx_in_c wk_700 4 rfl rfl
theorem w_705 : Cond.selects "OffOnTheSecond$Show" yX7_there yX7_there ∈ mx_TT := mx_in_c wk_700 5 rfl rfl
theorem w_706 : Cond.code yX7_there prog_9_method_3_code 1 (some (.int)) ∈ mx_TT := mx_in_c wk_700 6 rfl rfl
theorem w_707 : Cond.methodLink "OffOnTheSecondLaw" 92 yX10_fits ∈ mx_TT := mx_in_c wk_700 7 rfl rfl
theorem w_708 : Cond.instanceMethod yX10_fits ∈ mx_TT := mx_in_c wk_700 8 rfl rfl
theorem w_709 : Cond.selects "OffOnTheSecond" yX10_fits yX10_fits ∈ mx_TT := mx_in_c wk_700 9 rfl rfl
theorem w_710 : Cond.code yX10_fits prog_1_method_20_code 1 (some (.int)) ∈ mx_TT := mx_in_c wk_700 10 rfl rfl
theorem w_711 : Cond.methodLink "OffOnTheSecond" 218 yX7_fitsLeft ∈ mx_TT := mx_in_c wk_700 11 rfl rfl
theorem w_712 : Cond.instanceMethod yX7_fitsLeft ∈ mx_TT := mx_in_c wk_700 12 rfl rfl
theorem w_713 : Cond.selects "OffOnTheSecond$Show" yX7_fitsLeft yX7_fitsLeft ∈ mx_TT := mx_in_c wk_700 13 rfl rfl
theorem w_714 : Cond.code yX7_fitsLeft prog_9_method_4_code 1 (some (.boolean)) ∈ mx_TT := mx_in_c wk_700 14 rfl rfl
theorem w_715 : Cond.methodLink "OffOnTheSecond$Show" 53 yX7_there ∈ mx_TT := mx_in_c wk_700 15 rfl rfl
theorem w_716 : Cond.methodLink "OffOnTheSecond$Show" 57 yX0_leastOfLeft ∈ mx_TT := mx_in_c wk_700 16 rfl rfl
theorem w_717 : Cond.instanceMethod yX0_leastOfLeft ∈ mx_TT := mx_in_c wk_700 17 rfl rfl
theorem w_718 : Cond.selects "OffOnTheSecond$Items" yX0_leastOfLeft yX0_leastOfLeft ∈ mx_TT := mx_in_c wk_700 18 rfl rfl
theorem w_719 : Cond.code yX0_leastOfLeft prog_2_method_17_code 1 (some (.int)) ∈ mx_TT := mx_in_c wk_700 19 rfl rfl
theorem w_720 : Cond.methodLink "OffOnTheSecond$Items" 83 yX0_leastOfLeftFrom ∈ mx_TT := mx_in_c wk_700 20 rfl rfl
theorem w_721 : Cond.instanceMethod yX0_leastOfLeftFrom ∈ mx_TT := mx_in_c wk_700 21 rfl rfl
theorem w_722 : Cond.selects "OffOnTheSecond$Items" yX0_leastOfLeftFrom yX0_leastOfLeftFrom ∈ mx_TT := mx_in_c wk_700 22 rfl rfl
theorem w_723 : Cond.code yX0_leastOfLeftFrom prog_2_method_19_code 5 (some (.int)) ∈ mx_TT := mx_in_c wk_700 23 rfl rfl
theorem w_724 : Cond.methodLink "OffOnTheSecond$Items" 89 Lib.Math.max.name ∈ mx_TT := mx_in_c wk_700 24 rfl rfl
theorem w_725 : Cond.methodLink "OffOnTheSecond$Items" 92 yX0_least ∈ mx_TT := mx_in_c wk_725 0 rfl rfl
theorem w_726 : Cond.methodLink "OffOnTheSecond$Show" 60 yX0_mostOfLeft ∈ mx_TT := mx_in_c wk_725 1 rfl rfl
theorem w_727 : Cond.instanceMethod yX0_mostOfLeft ∈ mx_TT := mx_in_c wk_725 2 rfl rfl
theorem w_728 : Cond.selects "OffOnTheSecond$Items" yX0_mostOfLeft yX0_mostOfLeft ∈ mx_TT := mx_in_c wk_725 3 rfl rfl
theorem w_729 : Cond.code yX0_mostOfLeft prog_2_method_18_code 1 (some (.int)) ∈ mx_TT := mx_in_c wk_725 4 rfl rfl
theorem w_730 : Cond.methodLink "OffOnTheSecond$Items" 86 yX0_mostOfLeftFrom ∈ mx_TT := mx_in_c wk_725 5 rfl rfl
theorem w_731 : Cond.instanceMethod yX0_mostOfLeftFrom ∈ mx_TT := mx_in_c wk_725 6 rfl rfl
theorem w_732 : Cond.selects "OffOnTheSecond$Items" yX0_mostOfLeftFrom yX0_mostOfLeftFrom ∈ mx_TT := mx_in_c wk_725 7 rfl rfl
theorem w_733 : Cond.code yX0_mostOfLeftFrom prog_2_method_20_code 5 (some (.int)) ∈ mx_TT := mx_in_c wk_725 8 rfl rfl
theorem w_734 : Cond.methodLink "OffOnTheSecond$Items" 95 yX0_most ∈ mx_TT := mx_in_c wk_725 9 rfl rfl
theorem w_735 : Cond.methodLink "OffOnTheSecondLaw" 96 yX10_spare ∈ mx_TT := mx_in_c wk_725 10 rfl rfl
theorem w_736 : Cond.instanceMethod yX10_spare ∈ mx_TT := mx_in_c wk_725 11 rfl rfl
theorem w_737 : Cond.selects "OffOnTheSecond" yX10_spare yX10_spare ∈ mx_TT := mx_in_c wk_725 12 rfl rfl
theorem w_738 : Cond.code yX10_spare prog_1_method_21_code 2 (some (.int)) ∈ mx_TT := mx_in_c wk_725 13 rfl rfl
theorem w_739 : Cond.methodLink "OffOnTheSecond" 221 yX0_leastOfLeft ∈ mx_TT := mx_in_c wk_725 14 rfl rfl
theorem w_740 : Cond.methodLink "OffOnTheSecondLaw" 100 yX10_tuned ∈ mx_TT := mx_in_c wk_725 15 rfl rfl
theorem w_741 : Cond.instanceMethod yX10_tuned ∈ mx_TT := mx_in_c wk_725 16 rfl rfl
theorem w_742 : Cond.selects "OffOnTheSecond" yX10_tuned yX10_tuned ∈ mx_TT := mx_in_c wk_725 17 rfl rfl
theorem w_743 : Cond.code yX10_tuned prog_1_method_22_code 2 (some (.int)) ∈ mx_TT := mx_in_c wk_725 18 rfl rfl
theorem w_744 : Cond.methodLink "OffOnTheSecondLaw" 104 yX10_plan ∈ mx_TT := mx_in_c wk_725 19 rfl rfl
theorem w_745 : Cond.instanceMethod yX10_plan ∈ mx_TT := mx_in_c wk_725 20 rfl rfl
theorem w_746 : Cond.selects "OffOnTheSecond" yX10_plan yX10_plan ∈ mx_TT := mx_in_c wk_725 21 rfl rfl
theorem w_747 : Cond.code yX10_plan prog_1_method_23_code 2 (some (.int)) ∈ mx_TT := mx_in_c wk_725 22 rfl rfl
theorem w_748 : Cond.methodLink "OffOnTheSecond" 227 yX7_planned ∈ mx_TT := mx_in_c wk_725 23 rfl rfl
theorem w_749 : Cond.instanceMethod yX7_planned ∈ mx_TT := mx_in_c wk_725 24 rfl rfl
theorem w_750 : Cond.selects "OffOnTheSecond$Show" yX7_planned yX7_planned ∈ mx_TT := mx_in_c wk_750 0 rfl rfl
theorem w_751 : Cond.code yX7_planned prog_9_method_8_code 7 (some (.int)) ∈ mx_TT := mx_in_c wk_750 1 rfl rfl
theorem w_752 : Cond.methodLink "OffOnTheSecond$Show" 93 yX0_placeOf ∈ mx_TT := mx_in_c wk_750 2 rfl rfl
theorem w_753 : Cond.methodLink "OffOnTheSecond$Show" 99 yX1_at ∈ mx_TT := mx_in_c wk_750 3 rfl rfl
theorem w_754 : Cond.methodLink "OffOnTheSecond$Show" 102 yX0_isLeft ∈ mx_TT := mx_in_c wk_750 4 rfl rfl
theorem w_755 : Cond.methodLink "OffOnTheSecond$Show" 106 yX0_leastOfLeftFrom ∈ mx_TT := mx_in_c wk_750 5 rfl rfl
theorem w_756 : Cond.methodLink "OffOnTheSecond$Show" 109 Lib.Math.min.name ∈ mx_TT := mx_in_c wk_750 6 rfl rfl
theorem w_757 : Cond.methodLink "OffOnTheSecondLaw" 108 yX10_begins ∈ mx_TT := mx_in_c wk_750 7 rfl rfl
theorem w_758 : Cond.instanceMethod yX10_begins ∈ mx_TT := mx_in_c wk_750 8 rfl rfl
theorem w_759 : Cond.selects "OffOnTheSecond" yX10_begins yX10_begins ∈ mx_TT := mx_in_c wk_750 9 rfl rfl
theorem w_760 : Cond.code yX10_begins prog_1_method_24_code 3 (some (.int)) ∈ mx_TT := mx_in_c wk_750 10 rfl rfl
theorem w_761 : Cond.methodLink "OffOnTheSecond" 230 yX7_earliest ∈ mx_TT := mx_in_c wk_750 11 rfl rfl
theorem w_762 : Cond.instanceMethod yX7_earliest ∈ mx_TT := mx_in_c wk_750 12 rfl rfl
theorem w_763 : Cond.selects "OffOnTheSecond$Show" yX7_earliest yX7_earliest ∈ mx_TT := mx_in_c wk_750 13 rfl rfl
theorem w_764 : Cond.code yX7_earliest prog_9_method_9_code 4 (some (.int)) ∈ mx_TT := mx_in_c wk_750 14 rfl rfl
theorem w_765 : Cond.methodLink "OffOnTheSecond$Show" 112 yX0_mostOfLeftFrom ∈ mx_TT := mx_in_c wk_750 15 rfl rfl
theorem w_766 : Cond.methodLink "OffOnTheSecond" 233 yX7_latest ∈ mx_TT := mx_in_c wk_750 16 rfl rfl
theorem w_767 : Cond.instanceMethod yX7_latest ∈ mx_TT := mx_in_c wk_750 17 rfl rfl
theorem w_768 : Cond.selects "OffOnTheSecond$Show" yX7_latest yX7_latest ∈ mx_TT := mx_in_c wk_750 18 rfl rfl
theorem w_769 : Cond.code yX7_latest prog_9_method_10_code 4 (some (.int)) ∈ mx_TT := mx_in_c wk_750 19 rfl rfl
theorem w_770 : Cond.methodLink "OffOnTheSecondLaw" 112 yX10_drops ∈ mx_TT := mx_in_c wk_750 20 rfl rfl
theorem w_771 : Cond.instanceMethod yX10_drops ∈ mx_TT := mx_in_c wk_750 21 rfl rfl
theorem w_772 : Cond.selects "OffOnTheSecond" yX10_drops yX10_drops ∈ mx_TT := mx_in_c wk_750 22 rfl rfl
theorem w_773 : Cond.code yX10_drops prog_1_method_25_code 2 (some (.int)) ∈ mx_TT := mx_in_c wk_750 23 rfl rfl
theorem w_774 : Cond.methodLink "OffOnTheSecond" 236 yX5_findsDrops ∈ mx_TT := mx_in_c wk_750 24 rfl rfl
theorem w_775 : Cond.instanceMethod yX5_findsDrops ∈ mx_TT := mx_in_c wk_775 0 rfl rfl
theorem w_776 : Cond.selects "OffOnTheSecond$Sets" yX5_findsDrops yX5_findsDrops ∈ mx_TT := mx_in_c wk_775 1 rfl rfl
theorem w_777 : Cond.code yX5_findsDrops prog_7_method_2_code 5 (some (.boolean)) ∈ mx_TT := mx_in_c wk_775 2 rfl rfl
theorem w_778 : Cond.methodLink "OffOnTheSecond$Sets" 43 yX0_leftSet ∈ mx_TT := mx_in_c wk_775 3 rfl rfl
theorem w_779 : Cond.methodLink "OffOnTheSecond$Sets" 52 yX0_least ∈ mx_TT := mx_in_c wk_775 4 rfl rfl
theorem w_780 : Cond.methodLink "OffOnTheSecond$Sets" 56 yX1_set ∈ mx_TT := mx_in_c wk_775 5 rfl rfl
theorem w_781 : Cond.methodLink "OffOnTheSecond$Sets" 60 yX5_addUp ∈ mx_TT := mx_in_c wk_775 6 rfl rfl
theorem w_783 : Cond.instanceMethod yX5_addUp ∈ mx_TT := mx_in_c wk_775 8 rfl rfl
theorem w_784 : Cond.code yX5_addUp prog_7_method_4_code 7 none ∈ mx_TT := mx_in_c wk_775 9 rfl rfl
theorem w_785 : Cond.methodLink "OffOnTheSecond$Sets" 83 yX1_at ∈ mx_TT := mx_in_c wk_775 10 rfl rfl
theorem w_786 : Cond.methodLink "OffOnTheSecond$Sets" 64 yX0_most ∈ mx_TT := mx_in_c wk_775 11 rfl rfl
theorem w_787 : Cond.methodLink "OffOnTheSecond$Sets" 67 yX7_worthOf ∈ mx_TT := mx_in_c wk_775 12 rfl rfl
theorem w_788 : Cond.instanceMethod yX7_worthOf ∈ mx_TT := mx_in_c wk_775 13 rfl rfl
theorem w_789 : Cond.selects "OffOnTheSecond$Show" yX7_worthOf yX7_worthOf ∈ mx_TT := mx_in_c wk_775 14 rfl rfl
theorem w_790 : Cond.code yX7_worthOf prog_9_method_14_code 2 (some (.int)) ∈ mx_TT := mx_in_c wk_775 15 rfl rfl
theorem w_791 : Cond.methodLink "OffOnTheSecond$Show" 132 yX7_worthBy ∈ mx_TT := mx_in_c wk_775 16 rfl rfl
theorem w_792 : Cond.methodLink "OffOnTheSecond$Sets" 70 yX7_there ∈ mx_TT := mx_in_c wk_775 17 rfl rfl
theorem w_793 : Cond.methodLink "OffOnTheSecond$Sets" 73 yX5_findsBest ∈ mx_TT := mx_in_c wk_775 18 rfl rfl
theorem w_795 : Cond.instanceMethod yX5_findsBest ∈ mx_TT := mx_in_c wk_775 20 rfl rfl
theorem w_796 : Cond.code yX5_findsBest prog_7_method_5_code 10 (some (.boolean)) ∈ mx_TT := mx_in_c wk_775 21 rfl rfl
theorem w_797 : Cond.methodLink "OffOnTheSecond$Sets" 86 yX5_sumAt ∈ mx_TT := mx_in_c wk_775 22 rfl rfl
theorem w_798 : Cond.static yX5_sumAt ∈ mx_TT := mx_in_c wk_775 23 rfl rfl
theorem w_799 : Cond.code yX5_sumAt prog_7_method_6_code 2 (some (.int)) ∈ mx_TT := mx_in_c wk_775 24 rfl rfl
theorem w_800 : Cond.methodLink "OffOnTheSecond$Sets" 90 yJ6_bitCount_0f7a4 ∈ mx_TT := mx_in_c wk_800 0 rfl rfl
theorem w_801 : Cond.methodLink "OffOnTheSecond" 243 yJ6_bitCount_0f7a4 ∈ mx_TT := mx_in_c wk_800 1 rfl rfl
theorem w_802 : Cond.methodLink "OffOnTheSecondLaw" 116 yX10_row ∈ mx_TT := mx_in_c wk_800 2 rfl rfl
theorem w_803 : Cond.instanceMethod yX10_row ∈ mx_TT := mx_in_c wk_800 3 rfl rfl
theorem w_804 : Cond.selects "OffOnTheSecond" yX10_row yX10_row ∈ mx_TT := mx_in_c wk_800 4 rfl rfl
theorem w_805 : Cond.code yX10_row prog_1_method_26_code 3 (some (.int)) ∈ mx_TT := mx_in_c wk_800 5 rfl rfl
theorem w_806 : Cond.methodLink "OffOnTheSecond" 248 yX4_think ∈ mx_TT := mx_in_c wk_800 6 rfl rfl
theorem w_807 : Cond.instanceMethod yX4_think ∈ mx_TT := mx_in_c wk_800 7 rfl rfl
theorem w_808 : Cond.selects "OffOnTheSecond$Rows" yX4_think yX4_think ∈ mx_TT := mx_in_c wk_800 8 rfl rfl
theorem w_809 : Cond.code yX4_think prog_6_method_2_code 4 none ∈ mx_TT := mx_in_c wk_800 9 rfl rfl
theorem w_810 : Cond.methodLink "OffOnTheSecond$Rows" 33 yX4_askLikings ∈ mx_TT := mx_in_c wk_800 10 rfl rfl
theorem w_812 : Cond.instanceMethod yX4_askLikings ∈ mx_TT := mx_in_c wk_800 12 rfl rfl
theorem w_813 : Cond.code yX4_askLikings prog_6_method_3_code 5 none ∈ mx_TT := mx_in_c wk_800 13 rfl rfl
theorem w_814 : Cond.methodLink "OffOnTheSecond$Rows" 58 yX1_clear ∈ mx_TT := mx_in_c wk_800 14 rfl rfl
theorem w_815 : Cond.methodLink "OffOnTheSecond$Rows" 70 yX0_isLeft ∈ mx_TT := mx_in_c wk_800 15 rfl rfl
theorem w_816 : Cond.methodLink "OffOnTheSecond$Rows" 74 yX1_append ∈ mx_TT := mx_in_c wk_800 16 rfl rfl
theorem w_817 : Cond.methodLink "OffOnTheSecond$Rows" 52 yX1_at ∈ mx_TT := mx_in_c wk_800 17 rfl rfl
theorem w_818 : Cond.methodLink "OffOnTheSecond$Rows" 80 yX7_likingBy ∈ mx_TT := mx_in_c wk_800 18 rfl rfl
theorem w_819 : Cond.methodLink "OffOnTheSecond$Rows" 40 yX1_set ∈ mx_TT := mx_in_c wk_800 19 rfl rfl
theorem w_820 : Cond.methodLink "OffOnTheSecond$Rows" 44 yX4_bestNext ∈ mx_TT := mx_in_c wk_800 20 rfl rfl
theorem w_822 : Cond.instanceMethod yX4_bestNext ∈ mx_TT := mx_in_c wk_800 22 rfl rfl
theorem w_823 : Cond.code yX4_bestNext prog_6_method_4_code 4 (some (.int)) ∈ mx_TT := mx_in_c wk_800 23 rfl rfl
theorem w_824 : Cond.methodLink "OffOnTheSecond$Rows" 48 yX4_withNext ∈ mx_TT := mx_in_c wk_800 24 rfl rfl
theorem w_826 : Cond.instanceMethod yX4_withNext ∈ mx_TT := mx_in_c wk_825 1 rfl rfl
theorem w_827 : Cond.code yX4_withNext prog_6_method_5_code 4 (some (.int)) ∈ mx_TT := mx_in_c wk_825 2 rfl rfl
theorem w_828 : Cond.methodLink "OffOnTheSecond$Rows" 84 yJ6_bitCount_0f7a4 ∈ mx_TT := mx_in_c wk_825 3 rfl rfl
theorem w_829 : Cond.methodLink "OffOnTheSecond$Rows" 55 yX4_choose ∈ mx_TT := mx_in_c wk_825 4 rfl rfl
theorem w_831 : Cond.instanceMethod yX4_choose ∈ mx_TT := mx_in_c wk_825 6 rfl rfl
theorem w_832 : Cond.code yX4_choose prog_6_method_6_code 5 none ∈ mx_TT := mx_in_c wk_825 7 rfl rfl
theorem w_833 : Cond.methodLink "OffOnTheSecondLaw" 120 yX10_odds ∈ mx_TT := mx_in_c wk_825 8 rfl rfl
theorem w_834 : Cond.instanceMethod yX10_odds ∈ mx_TT := mx_in_c wk_825 9 rfl rfl
theorem w_835 : Cond.selects "OffOnTheSecond" yX10_odds yX10_odds ∈ mx_TT := mx_in_c wk_825 10 rfl rfl
theorem w_836 : Cond.code yX10_odds prog_1_method_27_code 2 (some (.long)) ∈ mx_TT := mx_in_c wk_825 11 rfl rfl
theorem w_837 : Cond.methodLink "OffOnTheSecond" 258 yX2_think ∈ mx_TT := mx_in_c wk_825 12 rfl rfl
theorem w_838 : Cond.instanceMethod yX2_think ∈ mx_TT := mx_in_c wk_825 13 rfl rfl
theorem w_839 : Cond.selects "OffOnTheSecond$Odds" yX2_think yX2_think ∈ mx_TT := mx_in_c wk_825 14 rfl rfl
theorem w_840 : Cond.code yX2_think prog_4_method_2_code 7 none ∈ mx_TT := mx_in_c wk_825 15 rfl rfl
theorem w_841 : Cond.methodLink "OffOnTheSecond$Odds" 28 yX7_there ∈ mx_TT := mx_in_c wk_825 16 rfl rfl
theorem w_842 : Cond.methodLink "OffOnTheSecond$Odds" 32 yX2_clearWays ∈ mx_TT := mx_in_c wk_825 17 rfl rfl
theorem w_844 : Cond.instanceMethod yX2_clearWays ∈ mx_TT := mx_in_c wk_825 19 rfl rfl
theorem w_845 : Cond.code yX2_clearWays prog_4_method_3_code 2 none ∈ mx_TT := mx_in_c wk_825 20 rfl rfl
theorem w_846 : Cond.methodLink "OffOnTheSecond$Odds" 41 yX0_isLeft ∈ mx_TT := mx_in_c wk_825 21 rfl rfl
theorem w_847 : Cond.methodLink "OffOnTheSecond$Odds" 45 yX0_isOf ∈ mx_TT := mx_in_c wk_825 22 rfl rfl
theorem w_848 : Cond.methodLink "OffOnTheSecond$Odds" 53 yX1_at ∈ mx_TT := mx_in_c wk_825 23 rfl rfl
theorem w_849 : Cond.methodLink "OffOnTheSecond$Odds" 62 yX2_spread ∈ mx_TT := mx_in_c wk_825 24 rfl rfl
theorem w_851 : Cond.instanceMethod yX2_spread ∈ mx_TT := mx_in_c wk_850 1 rfl rfl
theorem w_852 : Cond.code yX2_spread prog_4_method_4_code 4 none ∈ mx_TT := mx_in_c wk_850 2 rfl rfl
theorem w_853 : Cond.methodLink "OffOnTheSecond$Odds" 66 yX0_least ∈ mx_TT := mx_in_c wk_850 3 rfl rfl
theorem w_854 : Cond.methodLink "OffOnTheSecond$Odds" 69 yX0_most ∈ mx_TT := mx_in_c wk_850 4 rfl rfl
theorem w_855 : Cond.methodLink "OffOnTheSecond$Odds" 72 yX2_waysWithin ∈ mx_TT := mx_in_c wk_850 5 rfl rfl
theorem w_857 : Cond.instanceMethod yX2_waysWithin ∈ mx_TT := mx_in_c wk_850 7 rfl rfl
theorem w_858 : Cond.code yX2_waysWithin prog_4_method_5_code 6 (some (.long)) ∈ mx_TT := mx_in_c wk_850 8 rfl rfl
theorem w_859 : Cond.methodLink "OffOnTheSecond$Odds" 76 yX2_reduce ∈ mx_TT := mx_in_c wk_850 9 rfl rfl
theorem w_861 : Cond.instanceMethod yX2_reduce ∈ mx_TT := mx_in_c wk_850 11 rfl rfl
theorem w_862 : Cond.code yX2_reduce prog_4_method_6_code 8 none ∈ mx_TT := mx_in_c wk_850 12 rfl rfl
theorem w_863 : Cond.methodLink "OffOnTheSecondLaw" 125 yX10_sums ∈ mx_TT := mx_in_c wk_850 13 rfl rfl
theorem w_864 : Cond.instanceMethod yX10_sums ∈ mx_TT := mx_in_c wk_850 14 rfl rfl
theorem w_865 : Cond.selects "OffOnTheSecond" yX10_sums yX10_sums ∈ mx_TT := mx_in_c wk_850 15 rfl rfl
theorem w_866 : Cond.code yX10_sums prog_1_method_28_code 5 (some (.int)) ∈ mx_TT := mx_in_c wk_850 16 rfl rfl
theorem w_867 : Cond.methodLink "OffOnTheSecond" 266 yX10_isSheet ∈ mx_TT := mx_in_c wk_850 17 rfl rfl
theorem w_868 : Cond.static yX10_isSheet ∈ mx_TT := mx_in_c wk_850 18 rfl rfl
theorem w_869 : Cond.code yX10_isSheet prog_1_method_44_code 1 (some (.boolean)) ∈ mx_TT := mx_in_c wk_850 19 rfl rfl
theorem w_870 : Cond.methodLink "OffOnTheSecond" 269 yX10_sheetAt ∈ mx_TT := mx_in_c wk_850 20 rfl rfl
theorem w_872 : Cond.instanceMethod yX10_sheetAt ∈ mx_TT := mx_in_c wk_850 22 rfl rfl
theorem w_873 : Cond.code yX10_sheetAt prog_1_method_43_code 2 (some (.object "OffOnTheSecond$Sheet")) ∈ mx_TT := mx_in_c wk_850 23 rfl rfl
theorem w_874 : Cond.methodLink "OffOnTheSecond" 273 yX10_isMissing ∈ mx_TT := mx_in_c wk_850 24 rfl rfl
theorem w_875 : Cond.static yX10_isMissing ∈ mx_TT := mx_in_c wk_875 0 rfl rfl
theorem w_876 : Cond.code yX10_isMissing prog_1_method_45_code 1 (some (.boolean)) ∈ mx_TT := mx_in_c wk_875 1 rfl rfl
theorem w_877 : Cond.methodLink "OffOnTheSecond" 280 yX5_countSums ∈ mx_TT := mx_in_c wk_875 2 rfl rfl
theorem w_878 : Cond.instanceMethod yX5_countSums ∈ mx_TT := mx_in_c wk_875 3 rfl rfl
theorem w_879 : Cond.selects "OffOnTheSecond$Sets" yX5_countSums yX5_countSums ∈ mx_TT := mx_in_c wk_875 4 rfl rfl
theorem w_880 : Cond.code yX5_countSums prog_7_method_3_code 6 (some (.int)) ∈ mx_TT := mx_in_c wk_875 5 rfl rfl
theorem w_881 : Cond.methodLink "OffOnTheSecond$Sets" 79 yX1_takeFrom ∈ mx_TT := mx_in_c wk_875 6 rfl rfl
theorem w_882 : Cond.methodLink "OffOnTheSecondLaw" 129 yX10_voice ∈ mx_TT := mx_in_c wk_875 7 rfl rfl
theorem w_883 : Cond.instanceMethod yX10_voice ∈ mx_TT := mx_in_c wk_875 8 rfl rfl
theorem w_884 : Cond.selects "OffOnTheSecond" yX10_voice yX10_voice ∈ mx_TT := mx_in_c wk_875 9 rfl rfl
theorem w_885 : Cond.code yX10_voice prog_1_method_29_code 5 (some (.int)) ∈ mx_TT := mx_in_c wk_875 10 rfl rfl
theorem w_886 : Cond.methodLink "OffOnTheSecond" 284 yX9_hear ∈ mx_TT := mx_in_c wk_875 11 rfl rfl
theorem w_887 : Cond.instanceMethod yX9_hear ∈ mx_TT := mx_in_c wk_875 12 rfl rfl
theorem w_888 : Cond.selects "OffOnTheSecond$Voices" yX9_hear yX9_hear ∈ mx_TT := mx_in_c wk_875 13 rfl rfl
theorem w_889 : Cond.code yX9_hear prog_11_method_2_code 5 (some (.int)) ∈ mx_TT := mx_in_c wk_875 14 rfl rfl
theorem w_890 : Cond.methodLink "OffOnTheSecond$Voices" 34 yX1_clear ∈ mx_TT := mx_in_c wk_875 15 rfl rfl
theorem w_891 : Cond.methodLink "OffOnTheSecond$Voices" 42 yX1_at ∈ mx_TT := mx_in_c wk_875 16 rfl rfl
theorem w_892 : Cond.methodLink "OffOnTheSecond$Voices" 49 yX9_speak ∈ mx_TT := mx_in_c wk_875 17 rfl rfl
theorem w_894 : Cond.instanceMethod yX9_speak ∈ mx_TT := mx_in_c wk_875 19 rfl rfl
theorem w_895 : Cond.code yX9_speak prog_11_method_3_code 6 (some (.int)) ∈ mx_TT := mx_in_c wk_875 20 rfl rfl
theorem w_896 : Cond.methodLink "OffOnTheSecond$Voices" 53 yX9_bodyOf ∈ mx_TT := mx_in_c wk_875 21 rfl rfl
theorem w_897 : Cond.static yX9_bodyOf ∈ mx_TT := mx_in_c wk_875 22 rfl rfl
theorem w_898 : Cond.code yX9_bodyOf prog_11_method_6_code 6 (some (.int)) ∈ mx_TT := mx_in_c wk_875 23 rfl rfl
theorem w_899 : Cond.fieldLink "OffOnTheSecond$Voices" 70 "OffOnTheSecond$Voices" "BODIES" "[I" ∈ mx_TT := mx_in_c wk_875 24 rfl rfl
theorem w_901 : Cond.methodLink "OffOnTheSecond$Voices" 67 yX0_above ∈ mx_TT := mx_in_c wk_900 1 rfl rfl
theorem w_902 : Cond.methodLink "OffOnTheSecond$Voices" 57 yX1_append ∈ mx_TT := mx_in_c wk_900 2 rfl rfl
theorem w_903 : Cond.methodLink "OffOnTheSecond$Voices" 60 yX9_answerOf ∈ mx_TT := mx_in_c wk_900 3 rfl rfl
theorem w_905 : Cond.instanceMethod yX9_answerOf ∈ mx_TT := mx_in_c wk_900 5 rfl rfl
theorem w_906 : Cond.code yX9_answerOf prog_11_method_4_code 4 (some (.int)) ∈ mx_TT := mx_in_c wk_900 6 rfl rfl
theorem w_907 : Cond.methodLink "OffOnTheSecond$Voices" 64 yX9_cutUp ∈ mx_TT := mx_in_c wk_900 7 rfl rfl
theorem w_909 : Cond.instanceMethod yX9_cutUp ∈ mx_TT := mx_in_c wk_900 9 rfl rfl
theorem w_910 : Cond.code yX9_cutUp prog_11_method_5_code 2 (some (.int)) ∈ mx_TT := mx_in_c wk_900 10 rfl rfl
theorem w_911 : Cond.methodLink "OffOnTheSecondLaw" 134 yX10_body ∈ mx_TT := mx_in_c wk_900 11 rfl rfl
theorem w_912 : Cond.instanceMethod yX10_body ∈ mx_TT := mx_in_c wk_900 12 rfl rfl
theorem w_913 : Cond.selects "OffOnTheSecond" yX10_body yX10_body ∈ mx_TT := mx_in_c wk_900 13 rfl rfl
theorem w_914 : Cond.code yX10_body prog_1_method_30_code 2 (some (.int)) ∈ mx_TT := mx_in_c wk_900 14 rfl rfl
theorem w_915 : Cond.methodLink "OffOnTheSecondLaw" 138 yX10_sheet ∈ mx_TT := mx_in_c wk_900 15 rfl rfl
theorem w_916 : Cond.instanceMethod yX10_sheet ∈ mx_TT := mx_in_c wk_900 16 rfl rfl
theorem w_917 : Cond.selects "OffOnTheSecond" yX10_sheet yX10_sheet ∈ mx_TT := mx_in_c wk_900 17 rfl rfl
theorem w_918 : Cond.code yX10_sheet prog_1_method_31_code 5 (some (.int)) ∈ mx_TT := mx_in_c wk_900 18 rfl rfl
theorem w_919 : Cond.methodLink "OffOnTheSecond" 295 yX6_lay ∈ mx_TT := mx_in_c wk_900 19 rfl rfl
theorem w_920 : Cond.instanceMethod yX6_lay ∈ mx_TT := mx_in_c wk_900 20 rfl rfl
theorem w_921 : Cond.selects "OffOnTheSecond$Sheet" yX6_lay yX6_lay ∈ mx_TT := mx_in_c wk_900 21 rfl rfl
theorem w_922 : Cond.code yX6_lay prog_8_method_2_code 4 none ∈ mx_TT := mx_in_c wk_900 22 rfl rfl
theorem w_923 : Cond.methodLink "OffOnTheSecond$Sheet" 24 yX1_clear ∈ mx_TT := mx_in_c wk_900 23 rfl rfl
theorem w_924 : Cond.methodLink "OffOnTheSecond$Sheet" 27 yX1_append ∈ mx_TT := mx_in_c wk_900 24 rfl rfl
theorem w_925 : Cond.methodLink "OffOnTheSecondLaw" 142 yX10_put ∈ mx_TT := mx_in_c wk_925 0 rfl rfl
theorem w_926 : Cond.instanceMethod yX10_put ∈ mx_TT := mx_in_c wk_925 1 rfl rfl
theorem w_927 : Cond.selects "OffOnTheSecond" yX10_put yX10_put ∈ mx_TT := mx_in_c wk_925 2 rfl rfl
theorem w_928 : Cond.code yX10_put prog_1_method_32_code 5 (some (.int)) ∈ mx_TT := mx_in_c wk_925 3 rfl rfl
theorem w_929 : Cond.methodLink "OffOnTheSecond" 298 yX6_write ∈ mx_TT := mx_in_c wk_925 4 rfl rfl
theorem w_930 : Cond.instanceMethod yX6_write ∈ mx_TT := mx_in_c wk_925 5 rfl rfl
theorem w_931 : Cond.selects "OffOnTheSecond$Sheet" yX6_write yX6_write ∈ mx_TT := mx_in_c wk_925 6 rfl rfl
theorem w_932 : Cond.code yX6_write prog_8_method_3_code 3 none ∈ mx_TT := mx_in_c wk_925 7 rfl rfl
theorem w_933 : Cond.methodLink "OffOnTheSecond$Sheet" 30 yX1_set ∈ mx_TT := mx_in_c wk_925 8 rfl rfl
theorem w_934 : Cond.methodLink "OffOnTheSecondLaw" 146 yX10_move ∈ mx_TT := mx_in_c wk_925 9 rfl rfl
theorem w_935 : Cond.instanceMethod yX10_move ∈ mx_TT := mx_in_c wk_925 10 rfl rfl
theorem w_936 : Cond.selects "OffOnTheSecond" yX10_move yX10_move ∈ mx_TT := mx_in_c wk_925 11 rfl rfl
theorem w_937 : Cond.code yX10_move prog_1_method_33_code 8 (some (.int)) ∈ mx_TT := mx_in_c wk_925 12 rfl rfl
theorem w_938 : Cond.methodLink "OffOnTheSecond" 304 yX1_spans ∈ mx_TT := mx_in_c wk_925 13 rfl rfl
theorem w_939 : Cond.instanceMethod yX1_spans ∈ mx_TT := mx_in_c wk_925 14 rfl rfl
theorem w_940 : Cond.selects "OffOnTheSecond$Line" yX1_spans yX1_spans ∈ mx_TT := mx_in_c wk_925 15 rfl rfl
theorem w_941 : Cond.code yX1_spans prog_3_method_3_code 3 (some (.boolean)) ∈ mx_TT := mx_in_c wk_925 16 rfl rfl
theorem w_942 : Cond.methodLink "OffOnTheSecond" 311 arraycopyName ∈ mx_TT := mx_in_c wk_925 17 rfl rfl
theorem w_943 : Cond.static arraycopyName ∈ mx_TT := mx_in_c wk_925 18 rfl rfl
theorem w_944 : Cond.native arraycopyName ∈ mx_TT := mx_in_c wk_925 19 rfl rfl
theorem w_945 : Cond.methodLink "OffOnTheSecondLaw" 151 yX10_truths ∈ mx_TT := mx_in_c wk_925 20 rfl rfl
theorem w_946 : Cond.instanceMethod yX10_truths ∈ mx_TT := mx_in_c wk_925 21 rfl rfl
theorem w_947 : Cond.selects "OffOnTheSecond" yX10_truths yX10_truths ∈ mx_TT := mx_in_c wk_925 22 rfl rfl
theorem w_948 : Cond.code yX10_truths prog_1_method_34_code 5 (some (.int)) ∈ mx_TT := mx_in_c wk_925 23 rfl rfl
theorem w_949 : Cond.methodLink "OffOnTheSecondLaw" 155 yX10_judge ∈ mx_TT := mx_in_c wk_925 24 rfl rfl
theorem w_950 : Cond.instanceMethod yX10_judge ∈ mx_TT := mx_in_c wk_950 0 rfl rfl
theorem w_951 : Cond.selects "OffOnTheSecond" yX10_judge yX10_judge ∈ mx_TT := mx_in_c wk_950 1 rfl rfl
theorem w_952 : Cond.code yX10_judge prog_1_method_35_code 3 (some (.int)) ∈ mx_TT := mx_in_c wk_950 2 rfl rfl
theorem w_953 : Cond.methodLink "OffOnTheSecond" 317 yX0_howManyWithin ∈ mx_TT := mx_in_c wk_950 3 rfl rfl
theorem w_954 : Cond.instanceMethod yX0_howManyWithin ∈ mx_TT := mx_in_c wk_950 4 rfl rfl
theorem w_955 : Cond.selects "OffOnTheSecond$Items" yX0_howManyWithin yX0_howManyWithin ∈ mx_TT := mx_in_c wk_950 5 rfl rfl
theorem w_956 : Cond.code yX0_howManyWithin prog_2_method_22_code 6 (some (.int)) ∈ mx_TT := mx_in_c wk_950 6 rfl rfl
theorem w_957 : Cond.methodLink "OffOnTheSecondLaw" 159 yX10_image ∈ mx_TT := mx_in_c wk_950 7 rfl rfl
theorem w_958 : Cond.instanceMethod yX10_image ∈ mx_TT := mx_in_c wk_950 8 rfl rfl
theorem w_959 : Cond.selects "OffOnTheSecond" yX10_image yX10_image ∈ mx_TT := mx_in_c wk_950 9 rfl rfl
theorem w_960 : Cond.code yX10_image prog_1_method_36_code 1 (some (.int)) ∈ mx_TT := mx_in_c wk_950 10 rfl rfl
theorem w_961 : Cond.methodLink "OffOnTheSecond" 321 yX7_takeFrom ∈ mx_TT := mx_in_c wk_950 11 rfl rfl
theorem w_962 : Cond.instanceMethod yX7_takeFrom ∈ mx_TT := mx_in_c wk_950 12 rfl rfl
theorem w_963 : Cond.selects "OffOnTheSecond$Show" yX7_takeFrom yX7_takeFrom ∈ mx_TT := mx_in_c wk_950 13 rfl rfl
theorem w_964 : Cond.code yX7_takeFrom prog_9_method_15_code 2 none ∈ mx_TT := mx_in_c wk_950 14 rfl rfl
theorem w_965 : Cond.methodLink "OffOnTheSecond$Show" 135 yX0_takeFrom ∈ mx_TT := mx_in_c wk_950 15 rfl rfl
theorem w_966 : Cond.instanceMethod yX0_takeFrom ∈ mx_TT := mx_in_c wk_950 16 rfl rfl
theorem w_967 : Cond.selects "OffOnTheSecond$Items" yX0_takeFrom yX0_takeFrom ∈ mx_TT := mx_in_c wk_950 17 rfl rfl
theorem w_968 : Cond.code yX0_takeFrom prog_2_method_24_code 2 none ∈ mx_TT := mx_in_c wk_950 18 rfl rfl
theorem w_969 : Cond.methodLink "OffOnTheSecond$Items" 99 yX1_takeFrom ∈ mx_TT := mx_in_c wk_950 19 rfl rfl
theorem w_970 : Cond.methodLink "OffOnTheSecond$Show" 139 yX1_takeFrom ∈ mx_TT := mx_in_c wk_950 20 rfl rfl
theorem w_971 : Cond.methodLink "OffOnTheSecond$Show" 142 yX8_takeFrom ∈ mx_TT := mx_in_c wk_950 21 rfl rfl
theorem w_972 : Cond.instanceMethod yX8_takeFrom ∈ mx_TT := mx_in_c wk_950 22 rfl rfl
theorem w_973 : Cond.selects "OffOnTheSecond$Text" yX8_takeFrom yX8_takeFrom ∈ mx_TT := mx_in_c wk_950 23 rfl rfl
theorem w_974 : Cond.code yX8_takeFrom prog_10_method_6_code 2 none ∈ mx_TT := mx_in_c wk_950 24 rfl rfl
theorem w_975 : Cond.methodLink "OffOnTheSecondLaw" 163 yX10_restore ∈ mx_TT := mx_in_c wk_975 0 rfl rfl
theorem w_976 : Cond.instanceMethod yX10_restore ∈ mx_TT := mx_in_c wk_975 1 rfl rfl
theorem w_977 : Cond.selects "OffOnTheSecond" yX10_restore yX10_restore ∈ mx_TT := mx_in_c wk_975 2 rfl rfl
theorem w_978 : Cond.code yX10_restore prog_1_method_37_code 1 (some (.int)) ∈ mx_TT := mx_in_c wk_975 3 rfl rfl
theorem w_979 : Cond.methodLink "OffOnTheSecondLaw" 167 yX10_tell ∈ mx_TT := mx_in_c wk_975 4 rfl rfl
theorem w_980 : Cond.instanceMethod yX10_tell ∈ mx_TT := mx_in_c wk_975 5 rfl rfl
theorem w_981 : Cond.selects "OffOnTheSecond" yX10_tell yX10_tell ∈ mx_TT := mx_in_c wk_975 6 rfl rfl
theorem w_982 : Cond.code yX10_tell prog_1_method_38_code 2 (some (.int)) ∈ mx_TT := mx_in_c wk_975 7 rfl rfl
theorem w_983 : Cond.methodLink "OffOnTheSecondLaw" 171 yX10_check ∈ mx_TT := mx_in_c wk_975 8 rfl rfl
theorem w_984 : Cond.instanceMethod yX10_check ∈ mx_TT := mx_in_c wk_975 9 rfl rfl
theorem w_985 : Cond.selects "OffOnTheSecond" yX10_check yX10_check ∈ mx_TT := mx_in_c wk_975 10 rfl rfl
theorem w_986 : Cond.code yX10_check prog_1_method_39_code 2 (some (.int)) ∈ mx_TT := mx_in_c wk_975 11 rfl rfl
theorem w_987 : Cond.methodLink "OffOnTheSecond" 327 yX0_firstUnlike ∈ mx_TT := mx_in_c wk_975 12 rfl rfl
theorem w_988 : Cond.instanceMethod yX0_firstUnlike ∈ mx_TT := mx_in_c wk_975 13 rfl rfl
theorem w_989 : Cond.selects "OffOnTheSecond$Items" yX0_firstUnlike yX0_firstUnlike ∈ mx_TT := mx_in_c wk_975 14 rfl rfl
theorem w_990 : Cond.code yX0_firstUnlike prog_2_method_23_code 3 (some (.int)) ∈ mx_TT := mx_in_c wk_975 15 rfl rfl
theorem w_991 : Cond.methodLink "OffOnTheSecondLaw" 175 yX10_count ∈ mx_TT := mx_in_c wk_975 16 rfl rfl
theorem w_992 : Cond.instanceMethod yX10_count ∈ mx_TT := mx_in_c wk_975 17 rfl rfl
theorem w_993 : Cond.selects "OffOnTheSecond" yX10_count yX10_count ∈ mx_TT := mx_in_c wk_975 18 rfl rfl
theorem w_994 : Cond.code yX10_count prog_1_method_40_code 2 (some (.int)) ∈ mx_TT := mx_in_c wk_975 19 rfl rfl
theorem w_995 : Cond.methodLink "OffOnTheSecond" 333 yX0_mostOfLeft ∈ mx_TT := mx_in_c wk_975 20 rfl rfl
theorem w_996 : Cond.methodLink "OffOnTheSecondLaw" 179 yX10_told ∈ mx_TT := mx_in_c wk_975 21 rfl rfl
theorem w_997 : Cond.instanceMethod yX10_told ∈ mx_TT := mx_in_c wk_975 22 rfl rfl
theorem w_998 : Cond.selects "OffOnTheSecond" yX10_told yX10_told ∈ mx_TT := mx_in_c wk_975 23 rfl rfl
theorem w_999 : Cond.code yX10_told prog_1_method_41_code 2 (some (.int)) ∈ mx_TT := mx_in_c wk_975 24 rfl rfl
theorem w_1000 : Cond.classLink "OffOnTheSecondLaw" 10 "OffOnTheSecondModel" ∈ mx_TT := mx_in_c wk_1000 0 rfl rfl
theorem w_1001 : Cond.instantiable "OffOnTheSecondModel" 25 ∈ mx_TT := mx_in_c wk_1000 1 rfl rfl
theorem w_1002 : Cond.methodLink "OffOnTheSecondLaw" 12 yX11_init ∈ mx_TT := mx_in_c wk_1000 2 rfl rfl
theorem w_1003 : Cond.instanceMethod yX11_init ∈ mx_TT := mx_in_c wk_1000 3 rfl rfl
theorem w_1004 : Cond.code yX11_init prog_13_method_1_code 1 none ∈ mx_TT := mx_in_c wk_1000 4 rfl rfl
theorem w_1005 : Cond.methodLink "OffOnTheSecondModel" 1 Lib.objectInit ∈ mx_TT := mx_in_c wk_1000 5 rfl rfl
theorem w_1006 : Cond.fieldLink "OffOnTheSecondModel" 7 "OffOnTheSecondModel" "s" "[I" ∈ mx_TT := mx_in_c wk_1000 6 rfl rfl
theorem w_1007 : Cond.fieldLink "OffOnTheSecondModel" 13 "OffOnTheSecondModel" "kept" "[I" ∈ mx_TT := mx_in_c wk_1000 7 rfl rfl
theorem w_1008 : Cond.fieldLink "OffOnTheSecondModel" 268 "OffOnTheSecondModel" "images" "I" ∈ mx_TT := mx_in_c wk_1000 8 rfl rfl
theorem w_1009 : Cond.fieldLink "OffOnTheSecondModel" 16 "OffOnTheSecondModel" "errors" "[I" ∈ mx_TT := mx_in_c wk_1000 9 rfl rfl
theorem w_1010 : Cond.fieldLink "OffOnTheSecondModel" 67 "OffOnTheSecondModel" "at" "I" ∈ mx_TT := mx_in_c wk_1000 10 rfl rfl
theorem w_1011 : Cond.fieldLink "OffOnTheSecondModel" 101 "OffOnTheSecondModel" "open" "I" ∈ mx_TT := mx_in_c wk_1000 11 rfl rfl
theorem w_1012 : Cond.fieldLink "OffOnTheSecondModel" 74 "OffOnTheSecondModel" "steps" "I" ∈ mx_TT := mx_in_c wk_1000 12 rfl rfl
theorem w_1013 : Cond.fieldLink "OffOnTheSecondModel" 71 "OffOnTheSecondModel" "use" "I" ∈ mx_TT := mx_in_c wk_1000 13 rfl rfl
theorem w_1014 : Cond.fieldLink "OffOnTheSecondModel" 19 "OffOnTheSecondModel" "step" "[I" ∈ mx_TT := mx_in_c wk_1000 14 rfl rfl
theorem w_1015 : Cond.fieldLink "OffOnTheSecondModel" 22 "OffOnTheSecondModel" "named" "[I" ∈ mx_TT := mx_in_c wk_1000 15 rfl rfl
theorem w_1016 : Cond.fieldLink "OffOnTheSecondModel" 25 "OffOnTheSecondModel" "pile" "[I" ∈ mx_TT := mx_in_c wk_1000 16 rfl rfl
theorem w_1017 : Cond.fieldLink "OffOnTheSecondModel" 28 "OffOnTheSecondModel" "row1" "[I" ∈ mx_TT := mx_in_c wk_1000 17 rfl rfl
theorem w_1018 : Cond.fieldLink "OffOnTheSecondModel" 31 "OffOnTheSecondModel" "best1" "[I" ∈ mx_TT := mx_in_c wk_1000 18 rfl rfl
theorem w_1019 : Cond.fieldLink "OffOnTheSecondModel" 207 "OffOnTheSecondModel" "most1" "I" ∈ mx_TT := mx_in_c wk_1000 19 rfl rfl
theorem w_1020 : Cond.fieldLink "OffOnTheSecondModel" 203 "OffOnTheSecondModel" "isBest" "Z" ∈ mx_TT := mx_in_c wk_1000 20 rfl rfl
theorem w_1021 : Cond.fieldLink "OffOnTheSecondModel" 34 "OffOnTheSecondModel" "ways" "[J" ∈ mx_TT := mx_in_c wk_1000 21 rfl rfl
theorem w_1022 : Cond.fieldLink "OffOnTheSecondModel" 38 "OffOnTheSecondModel" "waysThen" "[J" ∈ mx_TT := mx_in_c wk_1000 22 rfl rfl
theorem w_1023 : Cond.fieldLink "OffOnTheSecondModel" 231 "OffOnTheSecondModel" "traced" "I" ∈ mx_TT := mx_in_c wk_1000 23 rfl rfl
theorem w_1024 : Cond.fieldLink "OffOnTheSecondModel" 41 "OffOnTheSecondModel" "trace" "[I" ∈ mx_TT := mx_in_c wk_1000 24 rfl rfl
theorem w_1025 : Cond.fieldLink "OffOnTheSecondModel" 234 "OffOnTheSecondModel" "speaks" "I" ∈ mx_TT := mx_in_c wk_1025 0 rfl rfl
theorem w_1026 : Cond.fieldLink "OffOnTheSecondModel" 255 "OffOnTheSecondModel" "isParted" "Z" ∈ mx_TT := mx_in_c wk_1025 1 rfl rfl
theorem w_1027 : Cond.fieldLink "OffOnTheSecondModel" 44 "OffOnTheSecondModel" "bits" "[I" ∈ mx_TT := mx_in_c wk_1025 2 rfl rfl
theorem w_1028 : Cond.fieldLink "OffOnTheSecondModel" 47 "OffOnTheSecondModel" "sizes" "[I" ∈ mx_TT := mx_in_c wk_1025 3 rfl rfl
theorem w_1029 : Cond.fieldLink "OffOnTheSecondModel" 50 "OffOnTheSecondModel" "number" "[I" ∈ mx_TT := mx_in_c wk_1025 4 rfl rfl
theorem w_1030 : Cond.fieldLink "OffOnTheSecondModel" 53 "OffOnTheSecondModel" "aside" "[I" ∈ mx_TT := mx_in_c wk_1025 5 rfl rfl
theorem w_1082 : Cond.methodLink "OffOnTheSecondLaw" 48 yX11_feed ∈ mx_TT := mx_in_c wk_1075 7 rfl rfl
theorem w_1083 : Cond.instanceMethod yX11_feed ∈ mx_TT := mx_in_c wk_1075 8 rfl rfl
theorem w_1084 : Cond.selects "OffOnTheSecondModel" yX11_feed yX11_feed ∈ mx_TT := mx_in_c wk_1075 9 rfl rfl
theorem w_1085 : Cond.code yX11_feed prog_13_method_10_code 5 (some (.int)) ∈ mx_TT := mx_in_c wk_1075 10 rfl rfl
theorem w_1086 : Cond.methodLink "OffOnTheSecondModel" 57 yX11_in ∈ mx_TT := mx_in_c wk_1075 11 rfl rfl
theorem w_1087 : Cond.static yX11_in ∈ mx_TT := mx_in_c wk_1075 12 rfl rfl
theorem w_1088 : Cond.code yX11_in prog_13_method_3_code 3 (some (.boolean)) ∈ mx_TT := mx_in_c wk_1075 13 rfl rfl
theorem w_1089 : Cond.methodLink "OffOnTheSecondModel" 61 yX11_error ∈ mx_TT := mx_in_c wk_1075 14 rfl rfl
theorem w_1091 : Cond.instanceMethod yX11_error ∈ mx_TT := mx_in_c wk_1075 16 rfl rfl
theorem w_1092 : Cond.code yX11_error prog_13_method_2_code 2 (some (.int)) ∈ mx_TT := mx_in_c wk_1075 17 rfl rfl
theorem w_1093 : Cond.constant "OffOnTheSecondModel" 56 (-1000000000) ∈ mx_TT := mx_in_c wk_1075 18 rfl rfl
theorem w_1094 : Cond.constantLong "OffOnTheSecondModel" 65 (255) ∈ mx_TT := mx_in_c wk_1075 19 rfl rfl
theorem w_1095 : Cond.methodLink "OffOnTheSecondLaw" 53 yX11_text ∈ mx_TT := mx_in_c wk_1075 20 rfl rfl
theorem w_1096 : Cond.instanceMethod yX11_text ∈ mx_TT := mx_in_c wk_1075 21 rfl rfl
theorem w_1097 : Cond.selects "OffOnTheSecondModel" yX11_text yX11_text ∈ mx_TT := mx_in_c wk_1075 22 rfl rfl
theorem w_1098 : Cond.code yX11_text prog_13_method_22_code 5 (some (.int)) ∈ mx_TT := mx_in_c wk_1075 23 rfl rfl
theorem w_1099 : Cond.methodLink "OffOnTheSecondModel" 111 yX11_whole ∈ mx_TT := mx_in_c wk_1075 24 rfl rfl
theorem w_1101 : Cond.instanceMethod yX11_whole ∈ mx_TT := mx_in_c wk_1100 1 rfl rfl
theorem w_1102 : Cond.code yX11_whole prog_13_method_14_code 1 (some (.boolean)) ∈ mx_TT := mx_in_c wk_1100 2 rfl rfl
theorem w_1103 : Cond.methodLink "OffOnTheSecondModel" 77 yX11_both ∈ mx_TT := mx_in_c wk_1100 3 rfl rfl
theorem w_1105 : Cond.instanceMethod yX11_both ∈ mx_TT := mx_in_c wk_1100 5 rfl rfl
theorem w_1106 : Cond.code yX11_both prog_13_method_15_code 1 (some (.boolean)) ∈ mx_TT := mx_in_c wk_1100 6 rfl rfl
theorem w_1107 : Cond.methodLink "OffOnTheSecondModel" 89 yX11_compared ∈ mx_TT := mx_in_c wk_1100 7 rfl rfl
theorem w_1109 : Cond.instanceMethod yX11_compared ∈ mx_TT := mx_in_c wk_1100 9 rfl rfl
theorem w_1110 : Cond.code yX11_compared prog_13_method_16_code 2 (some (.boolean)) ∈ mx_TT := mx_in_c wk_1100 10 rfl rfl
theorem w_1111 : Cond.methodLink "OffOnTheSecondModel" 92 yX11_sum ∈ mx_TT := mx_in_c wk_1100 11 rfl rfl
theorem w_1113 : Cond.instanceMethod yX11_sum ∈ mx_TT := mx_in_c wk_1100 13 rfl rfl
theorem w_1114 : Cond.code yX11_sum prog_13_method_17_code 2 (some (.boolean)) ∈ mx_TT := mx_in_c wk_1100 14 rfl rfl
theorem w_1115 : Cond.methodLink "OffOnTheSecondModel" 95 yX11_product ∈ mx_TT := mx_in_c wk_1100 15 rfl rfl
theorem w_1117 : Cond.instanceMethod yX11_product ∈ mx_TT := mx_in_c wk_1100 17 rfl rfl
theorem w_1118 : Cond.code yX11_product prog_13_method_18_code 2 (some (.boolean)) ∈ mx_TT := mx_in_c wk_1100 18 rfl rfl
theorem w_1119 : Cond.methodLink "OffOnTheSecondModel" 98 yX11_one ∈ mx_TT := mx_in_c wk_1100 19 rfl rfl
theorem w_1121 : Cond.instanceMethod yX11_one ∈ mx_TT := mx_in_c wk_1100 21 rfl rfl
theorem w_1122 : Cond.code yX11_one prog_13_method_20_code 4 (some (.boolean)) ∈ mx_TT := mx_in_c wk_1100 22 rfl rfl
theorem w_1123 : Cond.methodLink "OffOnTheSecondModel" 81 yX11_look ∈ mx_TT := mx_in_c wk_1100 23 rfl rfl
theorem w_1125 : Cond.instanceMethod yX11_look ∈ mx_TT := mx_in_c wk_1125 0 rfl rfl
theorem w_1126 : Cond.code yX11_look prog_13_method_11_code 1 (some (.int)) ∈ mx_TT := mx_in_c wk_1125 1 rfl rfl
theorem w_1127 : Cond.methodLink "OffOnTheSecondModel" 104 yX11_isName ∈ mx_TT := mx_in_c wk_1125 2 rfl rfl
theorem w_1129 : Cond.instanceMethod yX11_isName ∈ mx_TT := mx_in_c wk_1125 4 rfl rfl
theorem w_1130 : Cond.code yX11_isName prog_13_method_12_code 2 (some (.boolean)) ∈ mx_TT := mx_in_c wk_1125 5 rfl rfl
theorem w_1131 : Cond.methodLink "OffOnTheSecondModel" 85 yX11_step1 ∈ mx_TT := mx_in_c wk_1125 6 rfl rfl
theorem w_1133 : Cond.instanceMethod yX11_step1 ∈ mx_TT := mx_in_c wk_1125 8 rfl rfl
theorem w_1134 : Cond.code yX11_step1 prog_13_method_13_code 3 none ∈ mx_TT := mx_in_c wk_1125 9 rfl rfl
theorem w_1135 : Cond.methodLink "OffOnTheSecondModel" 108 yX11_opens ∈ mx_TT := mx_in_c wk_1125 10 rfl rfl
theorem w_1137 : Cond.instanceMethod yX11_opens ∈ mx_TT := mx_in_c wk_1125 12 rfl rfl
theorem w_1138 : Cond.code yX11_opens prog_13_method_19_code 1 (some (.boolean)) ∈ mx_TT := mx_in_c wk_1125 13 rfl rfl
theorem w_1139 : Cond.methodLink "OffOnTheSecondLaw" 57 yX11_untell ∈ mx_TT := mx_in_c wk_1125 14 rfl rfl
theorem w_1140 : Cond.instanceMethod yX11_untell ∈ mx_TT := mx_in_c wk_1125 15 rfl rfl
theorem w_1141 : Cond.selects "OffOnTheSecondModel" yX11_untell yX11_untell ∈ mx_TT := mx_in_c wk_1125 16 rfl rfl
theorem w_1142 : Cond.code yX11_untell prog_13_method_23_code 3 (some (.int)) ∈ mx_TT := mx_in_c wk_1125 17 rfl rfl
theorem w_1143 : Cond.methodLink "OffOnTheSecondModel" 114 yX11_hasText ∈ mx_TT := mx_in_c wk_1125 18 rfl rfl
theorem w_1145 : Cond.instanceMethod yX11_hasText ∈ mx_TT := mx_in_c wk_1125 20 rfl rfl
theorem w_1146 : Cond.code yX11_hasText prog_13_method_21_code 2 (some (.boolean)) ∈ mx_TT := mx_in_c wk_1125 21 rfl rfl
theorem w_1147 : Cond.methodLink "OffOnTheSecondLaw" 17 yX11_item ∈ mx_TT := mx_in_c wk_1125 22 rfl rfl
theorem w_1148 : Cond.instanceMethod yX11_item ∈ mx_TT := mx_in_c wk_1125 23 rfl rfl
theorem w_1149 : Cond.selects "OffOnTheSecondModel" yX11_item yX11_item ∈ mx_TT := mx_in_c wk_1125 24 rfl rfl
theorem w_1150 : Cond.code yX11_item prog_13_method_38_code 4 (some (.int)) ∈ mx_TT := mx_in_c wk_1150 0 rfl rfl
theorem w_1151 : Cond.methodLink "OffOnTheSecondModel" 143 yX11_isKind ∈ mx_TT := mx_in_c wk_1150 1 rfl rfl
theorem w_1152 : Cond.static yX11_isKind ∈ mx_TT := mx_in_c wk_1150 2 rfl rfl
theorem w_1153 : Cond.code yX11_isKind prog_13_method_37_code 1 (some (.boolean)) ∈ mx_TT := mx_in_c wk_1150 3 rfl rfl
theorem w_1154 : Cond.methodLink "OffOnTheSecondModel" 146 yX11_lays1 ∈ mx_TT := mx_in_c wk_1150 4 rfl rfl
theorem w_1156 : Cond.instanceMethod yX11_lays1 ∈ mx_TT := mx_in_c wk_1150 6 rfl rfl
theorem w_1157 : Cond.code yX11_lays1 prog_13_method_8_code 4 none ∈ mx_TT := mx_in_c wk_1150 7 rfl rfl
theorem w_1158 : Cond.methodLink "OffOnTheSecondLaw" 21 yX11_itemIs ∈ mx_TT := mx_in_c wk_1150 8 rfl rfl
theorem w_1159 : Cond.instanceMethod yX11_itemIs ∈ mx_TT := mx_in_c wk_1150 9 rfl rfl
theorem w_1160 : Cond.selects "OffOnTheSecondModel" yX11_itemIs yX11_itemIs ∈ mx_TT := mx_in_c wk_1150 10 rfl rfl
theorem w_1161 : Cond.code yX11_itemIs prog_13_method_39_code 3 (some (.int)) ∈ mx_TT := mx_in_c wk_1150 11 rfl rfl
theorem w_1162 : Cond.methodLink "OffOnTheSecondModel" 150 yX11_isItem ∈ mx_TT := mx_in_c wk_1150 12 rfl rfl
theorem w_1164 : Cond.instanceMethod yX11_isItem ∈ mx_TT := mx_in_c wk_1150 14 rfl rfl
theorem w_1165 : Cond.code yX11_isItem prog_13_method_6_code 2 (some (.boolean)) ∈ mx_TT := mx_in_c wk_1150 15 rfl rfl
theorem w_1166 : Cond.methodLink "OffOnTheSecondModel" 128 yX11_leastOf ∈ mx_TT := mx_in_c wk_1150 16 rfl rfl
theorem w_1168 : Cond.instanceMethod yX11_leastOf ∈ mx_TT := mx_in_c wk_1150 18 rfl rfl
theorem w_1169 : Cond.code yX11_leastOf prog_13_method_26_code 4 (some (.int)) ∈ mx_TT := mx_in_c wk_1150 19 rfl rfl
theorem w_1170 : Cond.methodLink "OffOnTheSecondModel" 121 yX11_its ∈ mx_TT := mx_in_c wk_1150 20 rfl rfl
theorem w_1172 : Cond.instanceMethod yX11_its ∈ mx_TT := mx_in_c wk_1150 22 rfl rfl
theorem w_1173 : Cond.code yX11_its prog_13_method_7_code 3 (some (.int)) ∈ mx_TT := mx_in_c wk_1150 23 rfl rfl
theorem w_1174 : Cond.methodLink "OffOnTheSecondModel" 131 yX11_mostOf ∈ mx_TT := mx_in_c wk_1150 24 rfl rfl
theorem w_1176 : Cond.instanceMethod yX11_mostOf ∈ mx_TT := mx_in_c wk_1175 1 rfl rfl
theorem w_1177 : Cond.code yX11_mostOf prog_13_method_27_code 4 (some (.int)) ∈ mx_TT := mx_in_c wk_1175 2 rfl rfl
theorem w_1178 : Cond.methodLink "OffOnTheSecondLaw" 25 yX11_become ∈ mx_TT := mx_in_c wk_1175 3 rfl rfl
theorem w_1179 : Cond.instanceMethod yX11_become ∈ mx_TT := mx_in_c wk_1175 4 rfl rfl
theorem w_1180 : Cond.selects "OffOnTheSecondModel" yX11_become yX11_become ∈ mx_TT := mx_in_c wk_1175 5 rfl rfl
theorem w_1181 : Cond.code yX11_become prog_13_method_40_code 3 (some (.int)) ∈ mx_TT := mx_in_c wk_1175 6 rfl rfl
theorem w_1182 : Cond.methodLink "OffOnTheSecondModel" 153 yX11_change1 ∈ mx_TT := mx_in_c wk_1175 7 rfl rfl
theorem w_1184 : Cond.instanceMethod yX11_change1 ∈ mx_TT := mx_in_c wk_1175 9 rfl rfl
theorem w_1185 : Cond.code yX11_change1 prog_13_method_9_code 4 (some (.int)) ∈ mx_TT := mx_in_c wk_1175 10 rfl rfl
theorem w_1186 : Cond.methodLink "OffOnTheSecondLaw" 29 yX11_as ∈ mx_TT := mx_in_c wk_1175 11 rfl rfl
theorem w_1187 : Cond.instanceMethod yX11_as ∈ mx_TT := mx_in_c wk_1175 12 rfl rfl
theorem w_1188 : Cond.selects "OffOnTheSecondModel" yX11_as yX11_as ∈ mx_TT := mx_in_c wk_1175 13 rfl rfl
theorem w_1189 : Cond.code yX11_as prog_13_method_41_code 4 (some (.int)) ∈ mx_TT := mx_in_c wk_1175 14 rfl rfl
theorem w_1190 : Cond.methodLink "OffOnTheSecondModel" 156 yX11_above ∈ mx_TT := mx_in_c wk_1175 15 rfl rfl
theorem w_1191 : Cond.static yX11_above ∈ mx_TT := mx_in_c wk_1175 16 rfl rfl
theorem w_1192 : Cond.code yX11_above prog_13_method_75_code 1 (some (.int)) ∈ mx_TT := mx_in_c wk_1175 17 rfl rfl
theorem w_1193 : Cond.methodLink "OffOnTheSecondLaw" 33 yX11_truth ∈ mx_TT := mx_in_c wk_1175 18 rfl rfl
theorem w_1194 : Cond.instanceMethod yX11_truth ∈ mx_TT := mx_in_c wk_1175 19 rfl rfl
theorem w_1195 : Cond.selects "OffOnTheSecondModel" yX11_truth yX11_truth ∈ mx_TT := mx_in_c wk_1175 20 rfl rfl
theorem w_1196 : Cond.code yX11_truth prog_13_method_42_code 3 (some (.int)) ∈ mx_TT := mx_in_c wk_1175 21 rfl rfl
theorem w_1197 : Cond.methodLink "OffOnTheSecondLaw" 37 yX11_shift ∈ mx_TT := mx_in_c wk_1175 22 rfl rfl
theorem w_1198 : Cond.instanceMethod yX11_shift ∈ mx_TT := mx_in_c wk_1175 23 rfl rfl
theorem w_1199 : Cond.selects "OffOnTheSecondModel" yX11_shift yX11_shift ∈ mx_TT := mx_in_c wk_1175 24 rfl rfl
theorem w_1200 : Cond.code yX11_shift prog_13_method_43_code 7 (some (.int)) ∈ mx_TT := mx_in_c wk_1200 0 rfl rfl
theorem w_1201 : Cond.methodLink "OffOnTheSecondModel" 125 yX11_isLeft ∈ mx_TT := mx_in_c wk_1200 1 rfl rfl
theorem w_1203 : Cond.instanceMethod yX11_isLeft ∈ mx_TT := mx_in_c wk_1200 3 rfl rfl
theorem w_1204 : Cond.code yX11_isLeft prog_13_method_28_code 2 (some (.boolean)) ∈ mx_TT := mx_in_c wk_1200 4 rfl rfl
theorem w_1205 : Cond.methodLink "OffOnTheSecondLaw" 41 yX11_clock ∈ mx_TT := mx_in_c wk_1200 5 rfl rfl
theorem w_1206 : Cond.instanceMethod yX11_clock ∈ mx_TT := mx_in_c wk_1200 6 rfl rfl
theorem w_1207 : Cond.selects "OffOnTheSecondModel" yX11_clock yX11_clock ∈ mx_TT := mx_in_c wk_1200 7 rfl rfl
theorem w_1208 : Cond.code yX11_clock prog_13_method_44_code 3 (some (.int)) ∈ mx_TT := mx_in_c wk_1200 8 rfl rfl
theorem w_1209 : Cond.methodLink "OffOnTheSecondLaw" 62 yX11_law ∈ mx_TT := mx_in_c wk_1200 9 rfl rfl
theorem w_1210 : Cond.instanceMethod yX11_law ∈ mx_TT := mx_in_c wk_1200 10 rfl rfl
theorem w_1211 : Cond.selects "OffOnTheSecondModel" yX11_law yX11_law ∈ mx_TT := mx_in_c wk_1200 11 rfl rfl
theorem w_1212 : Cond.code yX11_law prog_13_method_47_code 5 (some (.int)) ∈ mx_TT := mx_in_c wk_1200 12 rfl rfl
theorem w_1213 : Cond.methodLink "OffOnTheSecondModel" 165 yX11_worthTold ∈ mx_TT := mx_in_c wk_1200 13 rfl rfl
theorem w_1215 : Cond.instanceMethod yX11_worthTold ∈ mx_TT := mx_in_c wk_1200 15 rfl rfl
theorem w_1216 : Cond.code yX11_worthTold prog_13_method_45_code 4 (some (.int)) ∈ mx_TT := mx_in_c wk_1200 16 rfl rfl
theorem w_1217 : Cond.methodLink "OffOnTheSecondModel" 159 yX11_worked ∈ mx_TT := mx_in_c wk_1200 17 rfl rfl
theorem w_1219 : Cond.instanceMethod yX11_worked ∈ mx_TT := mx_in_c wk_1200 19 rfl rfl
theorem w_1220 : Cond.code yX11_worked prog_13_method_25_code 7 (some (.int)) ∈ mx_TT := mx_in_c wk_1200 20 rfl rfl
theorem w_1221 : Cond.methodLink "OffOnTheSecondModel" 117 yX11_joined ∈ mx_TT := mx_in_c wk_1200 21 rfl rfl
theorem w_1222 : Cond.static yX11_joined ∈ mx_TT := mx_in_c wk_1200 22 rfl rfl
theorem w_1223 : Cond.code yX11_joined prog_13_method_24_code 3 (some (.int)) ∈ mx_TT := mx_in_c wk_1200 23 rfl rfl
theorem w_1224 : Cond.methodLink "OffOnTheSecondModel" 162 yX11_held ∈ mx_TT := mx_in_c wk_1200 24 rfl rfl
theorem w_1225 : Cond.static yX11_held ∈ mx_TT := mx_in_c wk_1225 0 rfl rfl
theorem w_1226 : Cond.code yX11_held prog_13_method_4_code 3 (some (.int)) ∈ mx_TT := mx_in_c wk_1225 1 rfl rfl
theorem w_1227 : Cond.methodLink "OffOnTheSecondModel" 168 yX11_likedTold ∈ mx_TT := mx_in_c wk_1225 2 rfl rfl
theorem w_1229 : Cond.instanceMethod yX11_likedTold ∈ mx_TT := mx_in_c wk_1225 4 rfl rfl
theorem w_1230 : Cond.code yX11_likedTold prog_13_method_46_code 4 (some (.int)) ∈ mx_TT := mx_in_c wk_1225 5 rfl rfl
theorem w_1231 : Cond.methodLink "OffOnTheSecondLaw" 66 yX11_air ∈ mx_TT := mx_in_c wk_1225 6 rfl rfl
theorem w_1232 : Cond.instanceMethod yX11_air ∈ mx_TT := mx_in_c wk_1225 7 rfl rfl
theorem w_1233 : Cond.selects "OffOnTheSecondModel" yX11_air yX11_air ∈ mx_TT := mx_in_c wk_1225 8 rfl rfl
theorem w_1234 : Cond.code yX11_air prog_13_method_49_code 3 (some (.int)) ∈ mx_TT := mx_in_c wk_1225 9 rfl rfl
theorem w_1235 : Cond.methodLink "OffOnTheSecondModel" 171 yX11_onNow ∈ mx_TT := mx_in_c wk_1225 10 rfl rfl
theorem w_1237 : Cond.instanceMethod yX11_onNow ∈ mx_TT := mx_in_c wk_1225 12 rfl rfl
theorem w_1238 : Cond.code yX11_onNow prog_13_method_36_code 2 (some (.int)) ∈ mx_TT := mx_in_c wk_1225 13 rfl rfl
theorem w_1239 : Cond.methodLink "OffOnTheSecondModel" 140 yX11_itemAt ∈ mx_TT := mx_in_c wk_1225 14 rfl rfl
theorem w_1241 : Cond.instanceMethod yX11_itemAt ∈ mx_TT := mx_in_c wk_1225 16 rfl rfl
theorem w_1242 : Cond.code yX11_itemAt prog_13_method_35_code 4 (some (.int)) ∈ mx_TT := mx_in_c wk_1225 17 rfl rfl
theorem w_1243 : Cond.methodLink "OffOnTheSecondModel" 174 yX11_isDone ∈ mx_TT := mx_in_c wk_1225 18 rfl rfl
theorem w_1245 : Cond.instanceMethod yX11_isDone ∈ mx_TT := mx_in_c wk_1225 20 rfl rfl
theorem w_1246 : Cond.code yX11_isDone prog_13_method_48_code 3 none ∈ mx_TT := mx_in_c wk_1225 21 rfl rfl
theorem w_1247 : Cond.methodLink "OffOnTheSecondLaw" 70 yX11_breaks ∈ mx_TT := mx_in_c wk_1225 22 rfl rfl
theorem w_1248 : Cond.instanceMethod yX11_breaks ∈ mx_TT := mx_in_c wk_1225 23 rfl rfl
theorem w_1249 : Cond.selects "OffOnTheSecondModel" yX11_breaks yX11_breaks ∈ mx_TT := mx_in_c wk_1225 24 rfl rfl
theorem w_1250 : Cond.code yX11_breaks prog_13_method_50_code 2 (some (.int)) ∈ mx_TT := mx_in_c wk_1250 0 rfl rfl
theorem w_1251 : Cond.methodLink "OffOnTheSecondLaw" 74 yX11_drop ∈ mx_TT := mx_in_c wk_1250 1 rfl rfl
theorem w_1252 : Cond.instanceMethod yX11_drop ∈ mx_TT := mx_in_c wk_1250 2 rfl rfl
theorem w_1253 : Cond.selects "OffOnTheSecondModel" yX11_drop yX11_drop ∈ mx_TT := mx_in_c wk_1250 3 rfl rfl
theorem w_1254 : Cond.code yX11_drop prog_13_method_51_code 2 (some (.int)) ∈ mx_TT := mx_in_c wk_1250 4 rfl rfl
theorem w_1255 : Cond.methodLink "OffOnTheSecondModel" 177 yX11_leftSet ∈ mx_TT := mx_in_c wk_1250 5 rfl rfl
theorem w_1257 : Cond.instanceMethod yX11_leftSet ∈ mx_TT := mx_in_c wk_1250 7 rfl rfl
theorem w_1258 : Cond.code yX11_leftSet prog_13_method_29_code 3 (some (.int)) ∈ mx_TT := mx_in_c wk_1250 8 rfl rfl
theorem w_1259 : Cond.methodLink "OffOnTheSecondModel" 180 yX11_bitsOf ∈ mx_TT := mx_in_c wk_1250 9 rfl rfl
theorem w_1260 : Cond.static yX11_bitsOf ∈ mx_TT := mx_in_c wk_1250 10 rfl rfl
theorem w_1261 : Cond.code yX11_bitsOf prog_13_method_30_code 3 (some (.int)) ∈ mx_TT := mx_in_c wk_1250 11 rfl rfl
theorem w_1262 : Cond.methodLink "OffOnTheSecondLaw" 78 yX11_loose ∈ mx_TT := mx_in_c wk_1250 12 rfl rfl
theorem w_1263 : Cond.instanceMethod yX11_loose ∈ mx_TT := mx_in_c wk_1250 13 rfl rfl
theorem w_1264 : Cond.selects "OffOnTheSecondModel" yX11_loose yX11_loose ∈ mx_TT := mx_in_c wk_1250 14 rfl rfl
theorem w_1265 : Cond.code yX11_loose prog_13_method_53_code 6 (some (.int)) ∈ mx_TT := mx_in_c wk_1250 15 rfl rfl
theorem w_1266 : Cond.methodLink "OffOnTheSecondModel" 184 yX11_draw ∈ mx_TT := mx_in_c wk_1250 16 rfl rfl
theorem w_1268 : Cond.instanceMethod yX11_draw ∈ mx_TT := mx_in_c wk_1250 18 rfl rfl
theorem w_1269 : Cond.code yX11_draw prog_13_method_52_code 1 (some (.int)) ∈ mx_TT := mx_in_c wk_1250 19 rfl rfl
theorem w_1270 : Cond.constant "OffOnTheSecondModel" 183 (1103515245) ∈ mx_TT := mx_in_c wk_1250 20 rfl rfl
theorem w_1271 : Cond.methodLink "OffOnTheSecondLaw" 83 yX11_anew ∈ mx_TT := mx_in_c wk_1250 21 rfl rfl
theorem w_1272 : Cond.instanceMethod yX11_anew ∈ mx_TT := mx_in_c wk_1250 22 rfl rfl
theorem w_1273 : Cond.selects "OffOnTheSecondModel" yX11_anew yX11_anew ∈ mx_TT := mx_in_c wk_1250 23 rfl rfl
theorem w_1274 : Cond.code yX11_anew prog_13_method_54_code 2 (some (.int)) ∈ mx_TT := mx_in_c wk_1250 24 rfl rfl
theorem w_1275 : Cond.methodLink "OffOnTheSecondLaw" 87 yX11_seed ∈ mx_TT := mx_in_c wk_1275 0 rfl rfl
theorem w_1276 : Cond.instanceMethod yX11_seed ∈ mx_TT := mx_in_c wk_1275 1 rfl rfl
theorem w_1277 : Cond.selects "OffOnTheSecondModel" yX11_seed yX11_seed ∈ mx_TT := mx_in_c wk_1275 2 rfl rfl
theorem w_1278 : Cond.code yX11_seed prog_13_method_55_code 2 (some (.int)) ∈ mx_TT := mx_in_c wk_1275 3 rfl rfl
theorem w_1279 : Cond.methodLink "OffOnTheSecondLaw" 91 yX11_over ∈ mx_TT := mx_in_c wk_1275 4 rfl rfl
theorem w_1280 : Cond.instanceMethod yX11_over ∈ mx_TT := mx_in_c wk_1275 5 rfl rfl
theorem w_1281 : Cond.selects "OffOnTheSecondModel" yX11_over yX11_over ∈ mx_TT := mx_in_c wk_1275 6 rfl rfl
theorem w_1282 : Cond.code yX11_over prog_13_method_56_code 3 (some (.int)) ∈ mx_TT := mx_in_c wk_1275 7 rfl rfl
theorem w_1283 : Cond.methodLink "OffOnTheSecondLaw" 95 yX11_fits ∈ mx_TT := mx_in_c wk_1275 8 rfl rfl
theorem w_1284 : Cond.instanceMethod yX11_fits ∈ mx_TT := mx_in_c wk_1275 9 rfl rfl
theorem w_1285 : Cond.selects "OffOnTheSecondModel" yX11_fits yX11_fits ∈ mx_TT := mx_in_c wk_1275 10 rfl rfl
theorem w_1286 : Cond.code yX11_fits prog_13_method_57_code 1 (some (.int)) ∈ mx_TT := mx_in_c wk_1275 11 rfl rfl
theorem w_1287 : Cond.methodLink "OffOnTheSecondModel" 187 yX11_thereIs ∈ mx_TT := mx_in_c wk_1275 12 rfl rfl
theorem w_1289 : Cond.instanceMethod yX11_thereIs ∈ mx_TT := mx_in_c wk_1275 14 rfl rfl
theorem w_1290 : Cond.code yX11_thereIs prog_13_method_33_code 1 (some (.int)) ∈ mx_TT := mx_in_c wk_1275 15 rfl rfl
theorem w_1291 : Cond.methodLink "OffOnTheSecondModel" 190 yX11_fitsSet ∈ mx_TT := mx_in_c wk_1275 16 rfl rfl
theorem w_1293 : Cond.instanceMethod yX11_fitsSet ∈ mx_TT := mx_in_c wk_1275 18 rfl rfl
theorem w_1294 : Cond.code yX11_fitsSet prog_13_method_34_code 3 (some (.boolean)) ∈ mx_TT := mx_in_c wk_1275 19 rfl rfl
theorem w_1295 : Cond.methodLink "OffOnTheSecondModel" 134 yX11_leastAll ∈ mx_TT := mx_in_c wk_1275 20 rfl rfl
theorem w_1297 : Cond.instanceMethod yX11_leastAll ∈ mx_TT := mx_in_c wk_1275 22 rfl rfl
theorem w_1298 : Cond.code yX11_leastAll prog_13_method_31_code 4 (some (.int)) ∈ mx_TT := mx_in_c wk_1275 23 rfl rfl
theorem w_1299 : Cond.methodLink "OffOnTheSecondModel" 137 yX11_mostAll ∈ mx_TT := mx_in_c wk_1275 24 rfl rfl
theorem w_1301 : Cond.instanceMethod yX11_mostAll ∈ mx_TT := mx_in_c wk_1300 1 rfl rfl
theorem w_1302 : Cond.code yX11_mostAll prog_13_method_32_code 4 (some (.int)) ∈ mx_TT := mx_in_c wk_1300 2 rfl rfl
theorem w_1303 : Cond.methodLink "OffOnTheSecondLaw" 99 yX11_spare ∈ mx_TT := mx_in_c wk_1300 3 rfl rfl
theorem w_1304 : Cond.instanceMethod yX11_spare ∈ mx_TT := mx_in_c wk_1300 4 rfl rfl
theorem w_1305 : Cond.selects "OffOnTheSecondModel" yX11_spare yX11_spare ∈ mx_TT := mx_in_c wk_1300 5 rfl rfl
theorem w_1306 : Cond.code yX11_spare prog_13_method_58_code 2 (some (.int)) ∈ mx_TT := mx_in_c wk_1300 6 rfl rfl
theorem w_1307 : Cond.methodLink "OffOnTheSecondLaw" 103 yX11_tuned ∈ mx_TT := mx_in_c wk_1300 7 rfl rfl
theorem w_1308 : Cond.instanceMethod yX11_tuned ∈ mx_TT := mx_in_c wk_1300 8 rfl rfl
theorem w_1309 : Cond.selects "OffOnTheSecondModel" yX11_tuned yX11_tuned ∈ mx_TT := mx_in_c wk_1300 9 rfl rfl
theorem w_1310 : Cond.code yX11_tuned prog_13_method_59_code 2 (some (.int)) ∈ mx_TT := mx_in_c wk_1300 10 rfl rfl
theorem w_1311 : Cond.methodLink "OffOnTheSecondLaw" 107 yX11_plan ∈ mx_TT := mx_in_c wk_1300 11 rfl rfl
theorem w_1312 : Cond.instanceMethod yX11_plan ∈ mx_TT := mx_in_c wk_1300 12 rfl rfl
theorem w_1313 : Cond.selects "OffOnTheSecondModel" yX11_plan yX11_plan ∈ mx_TT := mx_in_c wk_1300 13 rfl rfl
theorem w_1314 : Cond.code yX11_plan prog_13_method_62_code 9 (some (.int)) ∈ mx_TT := mx_in_c wk_1300 14 rfl rfl
theorem w_1315 : Cond.methodLink "OffOnTheSecondModel" 194 yX11_noPlan ∈ mx_TT := mx_in_c wk_1300 15 rfl rfl
theorem w_1317 : Cond.instanceMethod yX11_noPlan ∈ mx_TT := mx_in_c wk_1300 17 rfl rfl
theorem w_1318 : Cond.code yX11_noPlan prog_13_method_61_code 2 (some (.int)) ∈ mx_TT := mx_in_c wk_1300 18 rfl rfl
theorem w_1319 : Cond.methodLink "OffOnTheSecondLaw" 111 yX11_begins ∈ mx_TT := mx_in_c wk_1300 19 rfl rfl
theorem w_1320 : Cond.instanceMethod yX11_begins ∈ mx_TT := mx_in_c wk_1300 20 rfl rfl
theorem w_1321 : Cond.selects "OffOnTheSecondModel" yX11_begins yX11_begins ∈ mx_TT := mx_in_c wk_1300 21 rfl rfl
theorem w_1322 : Cond.code yX11_begins prog_13_method_63_code 9 (some (.int)) ∈ mx_TT := mx_in_c wk_1300 22 rfl rfl
theorem w_1323 : Cond.methodLink "OffOnTheSecondModel" 197 yX11_aheadOf ∈ mx_TT := mx_in_c wk_1300 23 rfl rfl
theorem w_1325 : Cond.instanceMethod yX11_aheadOf ∈ mx_TT := mx_in_c wk_1325 0 rfl rfl
theorem w_1326 : Cond.code yX11_aheadOf prog_13_method_60_code 4 (some (.int)) ∈ mx_TT := mx_in_c wk_1325 1 rfl rfl
theorem w_1327 : Cond.methodLink "OffOnTheSecondLaw" 115 yX11_drops ∈ mx_TT := mx_in_c wk_1325 2 rfl rfl
theorem w_1328 : Cond.instanceMethod yX11_drops ∈ mx_TT := mx_in_c wk_1325 3 rfl rfl
theorem w_1329 : Cond.selects "OffOnTheSecondModel" yX11_drops yX11_drops ∈ mx_TT := mx_in_c wk_1325 4 rfl rfl
theorem w_1330 : Cond.code yX11_drops prog_13_method_65_code 8 (some (.int)) ∈ mx_TT := mx_in_c wk_1325 5 rfl rfl
theorem w_1331 : Cond.methodLink "OffOnTheSecondModel" 200 yX11_worthAll ∈ mx_TT := mx_in_c wk_1325 6 rfl rfl
theorem w_1333 : Cond.instanceMethod yX11_worthAll ∈ mx_TT := mx_in_c wk_1325 8 rfl rfl
theorem w_1334 : Cond.code yX11_worthAll prog_13_method_64_code 4 (some (.int)) ∈ mx_TT := mx_in_c wk_1325 9 rfl rfl
theorem w_1335 : Cond.methodLink "OffOnTheSecondLaw" 119 yX11_row ∈ mx_TT := mx_in_c wk_1325 10 rfl rfl
theorem w_1336 : Cond.instanceMethod yX11_row ∈ mx_TT := mx_in_c wk_1325 11 rfl rfl
theorem w_1337 : Cond.selects "OffOnTheSecondModel" yX11_row yX11_row ∈ mx_TT := mx_in_c wk_1325 12 rfl rfl
theorem w_1338 : Cond.code yX11_row prog_13_method_67_code 3 (some (.int)) ∈ mx_TT := mx_in_c wk_1325 13 rfl rfl
theorem w_1339 : Cond.methodLink "OffOnTheSecondModel" 210 yX11_goesRow ∈ mx_TT := mx_in_c wk_1325 14 rfl rfl
theorem w_1341 : Cond.instanceMethod yX11_goesRow ∈ mx_TT := mx_in_c wk_1325 16 rfl rfl
theorem w_1342 : Cond.code yX11_goesRow prog_13_method_66_code 6 none ∈ mx_TT := mx_in_c wk_1325 17 rfl rfl
theorem w_1343 : Cond.methodLink "OffOnTheSecondLaw" 124 yX11_odds ∈ mx_TT := mx_in_c wk_1325 18 rfl rfl
theorem w_1344 : Cond.instanceMethod yX11_odds ∈ mx_TT := mx_in_c wk_1325 19 rfl rfl
theorem w_1345 : Cond.selects "OffOnTheSecondModel" yX11_odds yX11_odds ∈ mx_TT := mx_in_c wk_1325 20 rfl rfl
theorem w_1346 : Cond.code yX11_odds prog_13_method_71_code 10 (some (.long)) ∈ mx_TT := mx_in_c wk_1325 21 rfl rfl
theorem w_1347 : Cond.methodLink "OffOnTheSecondModel" 214 yX11_isLive ∈ mx_TT := mx_in_c wk_1325 22 rfl rfl
theorem w_1349 : Cond.instanceMethod yX11_isLive ∈ mx_TT := mx_in_c wk_1325 24 rfl rfl
theorem w_1350 : Cond.code yX11_isLive prog_13_method_69_code 2 (some (.boolean)) ∈ mx_TT := mx_in_c wk_1350 0 rfl rfl
theorem w_1351 : Cond.methodLink "OffOnTheSecondModel" 217 yX11_moreBy ∈ mx_TT := mx_in_c wk_1350 1 rfl rfl
theorem w_1353 : Cond.instanceMethod yX11_moreBy ∈ mx_TT := mx_in_c wk_1350 3 rfl rfl
theorem w_1354 : Cond.code yX11_moreBy prog_13_method_70_code 4 none ∈ mx_TT := mx_in_c wk_1350 4 rfl rfl
theorem w_1355 : Cond.methodLink "OffOnTheSecondModel" 221 yX11_divisor ∈ mx_TT := mx_in_c wk_1350 5 rfl rfl
theorem w_1356 : Cond.static yX11_divisor ∈ mx_TT := mx_in_c wk_1350 6 rfl rfl
theorem w_1357 : Cond.code yX11_divisor prog_13_method_68_code 10 (some (.long)) ∈ mx_TT := mx_in_c wk_1350 7 rfl rfl
theorem w_1358 : Cond.methodLink "OffOnTheSecondLaw" 128 yX11_sums ∈ mx_TT := mx_in_c wk_1350 8 rfl rfl
theorem w_1359 : Cond.instanceMethod yX11_sums ∈ mx_TT := mx_in_c wk_1350 9 rfl rfl
theorem w_1360 : Cond.selects "OffOnTheSecondModel" yX11_sums yX11_sums ∈ mx_TT := mx_in_c wk_1350 10 rfl rfl
theorem w_1361 : Cond.code yX11_sums prog_13_method_73_code 8 (some (.int)) ∈ mx_TT := mx_in_c wk_1350 11 rfl rfl
theorem w_1362 : Cond.methodLink "OffOnTheSecondModel" 225 yX11_lacks ∈ mx_TT := mx_in_c wk_1350 12 rfl rfl
theorem w_1364 : Cond.instanceMethod yX11_lacks ∈ mx_TT := mx_in_c wk_1350 14 rfl rfl
theorem w_1365 : Cond.code yX11_lacks prog_13_method_88_code 2 (some (.int)) ∈ mx_TT := mx_in_c wk_1350 15 rfl rfl
theorem w_1366 : Cond.methodLink "OffOnTheSecondModel" 261 yX11_isSheet ∈ mx_TT := mx_in_c wk_1350 16 rfl rfl
theorem w_1367 : Cond.static yX11_isSheet ∈ mx_TT := mx_in_c wk_1350 17 rfl rfl
theorem w_1368 : Cond.code yX11_isSheet prog_13_method_84_code 1 (some (.boolean)) ∈ mx_TT := mx_in_c wk_1350 18 rfl rfl
theorem w_1369 : Cond.methodLink "OffOnTheSecondModel" 228 yX11_truthAll ∈ mx_TT := mx_in_c wk_1350 19 rfl rfl
theorem w_1371 : Cond.instanceMethod yX11_truthAll ∈ mx_TT := mx_in_c wk_1350 21 rfl rfl
theorem w_1372 : Cond.code yX11_truthAll prog_13_method_72_code 4 (some (.int)) ∈ mx_TT := mx_in_c wk_1350 22 rfl rfl
theorem w_1373 : Cond.methodLink "OffOnTheSecondLaw" 133 yX11_voice ∈ mx_TT := mx_in_c wk_1350 23 rfl rfl
theorem w_1374 : Cond.instanceMethod yX11_voice ∈ mx_TT := mx_in_c wk_1350 24 rfl rfl
theorem w_1375 : Cond.selects "OffOnTheSecondModel" yX11_voice yX11_voice ∈ mx_TT := mx_in_c wk_1375 0 rfl rfl
theorem w_1376 : Cond.code yX11_voice prog_13_method_82_code 6 (some (.int)) ∈ mx_TT := mx_in_c wk_1375 1 rfl rfl
theorem w_1377 : Cond.methodLink "OffOnTheSecondModel" 243 yX11_kindNow ∈ mx_TT := mx_in_c wk_1375 2 rfl rfl
theorem w_1379 : Cond.instanceMethod yX11_kindNow ∈ mx_TT := mx_in_c wk_1375 4 rfl rfl
theorem w_1380 : Cond.code yX11_kindNow prog_13_method_76_code 1 (some (.int)) ∈ mx_TT := mx_in_c wk_1375 5 rfl rfl
theorem w_1381 : Cond.methodLink "OffOnTheSecondModel" 240 yX11_readsAs ∈ mx_TT := mx_in_c wk_1375 6 rfl rfl
theorem w_1383 : Cond.instanceMethod yX11_readsAs ∈ mx_TT := mx_in_c wk_1375 8 rfl rfl
theorem w_1384 : Cond.code yX11_readsAs prog_13_method_78_code 3 (some (.int)) ∈ mx_TT := mx_in_c wk_1375 9 rfl rfl
theorem w_1385 : Cond.methodLink "OffOnTheSecondModel" 237 yX11_starts ∈ mx_TT := mx_in_c wk_1375 10 rfl rfl
theorem w_1387 : Cond.instanceMethod yX11_starts ∈ mx_TT := mx_in_c wk_1375 12 rfl rfl
theorem w_1388 : Cond.code yX11_starts prog_13_method_74_code 2 none ∈ mx_TT := mx_in_c wk_1375 13 rfl rfl
theorem w_1389 : Cond.methodLink "OffOnTheSecondModel" 246 yX11_adlibsAs ∈ mx_TT := mx_in_c wk_1375 14 rfl rfl
theorem w_1391 : Cond.instanceMethod yX11_adlibsAs ∈ mx_TT := mx_in_c wk_1375 16 rfl rfl
theorem w_1392 : Cond.code yX11_adlibsAs prog_13_method_79_code 3 (some (.int)) ∈ mx_TT := mx_in_c wk_1375 17 rfl rfl
theorem w_1393 : Cond.methodLink "OffOnTheSecondModel" 249 yX11_mNow ∈ mx_TT := mx_in_c wk_1375 18 rfl rfl
theorem w_1395 : Cond.instanceMethod yX11_mNow ∈ mx_TT := mx_in_c wk_1375 20 rfl rfl
theorem w_1396 : Cond.code yX11_mNow prog_13_method_77_code 1 (some (.int)) ∈ mx_TT := mx_in_c wk_1375 21 rfl rfl
theorem w_1397 : Cond.methodLink "OffOnTheSecondModel" 252 yX11_windsAs ∈ mx_TT := mx_in_c wk_1375 22 rfl rfl
theorem w_1399 : Cond.instanceMethod yX11_windsAs ∈ mx_TT := mx_in_c wk_1375 24 rfl rfl
theorem w_1400 : Cond.code yX11_windsAs prog_13_method_80_code 3 (some (.int)) ∈ mx_TT := mx_in_c wk_1400 0 rfl rfl
theorem w_1401 : Cond.methodLink "OffOnTheSecondModel" 258 yX11_partsAs ∈ mx_TT := mx_in_c wk_1400 1 rfl rfl
theorem w_1403 : Cond.instanceMethod yX11_partsAs ∈ mx_TT := mx_in_c wk_1400 3 rfl rfl
theorem w_1404 : Cond.code yX11_partsAs prog_13_method_81_code 5 (some (.int)) ∈ mx_TT := mx_in_c wk_1400 4 rfl rfl
theorem w_1405 : Cond.methodLink "OffOnTheSecondLaw" 137 yX11_body ∈ mx_TT := mx_in_c wk_1400 5 rfl rfl
theorem w_1406 : Cond.instanceMethod yX11_body ∈ mx_TT := mx_in_c wk_1400 6 rfl rfl
theorem w_1407 : Cond.selects "OffOnTheSecondModel" yX11_body yX11_body ∈ mx_TT := mx_in_c wk_1400 7 rfl rfl
theorem w_1408 : Cond.code yX11_body prog_13_method_83_code 2 (some (.int)) ∈ mx_TT := mx_in_c wk_1400 8 rfl rfl
theorem w_1409 : Cond.methodLink "OffOnTheSecondLaw" 141 yX11_sheet ∈ mx_TT := mx_in_c wk_1400 9 rfl rfl
theorem w_1410 : Cond.instanceMethod yX11_sheet ∈ mx_TT := mx_in_c wk_1400 10 rfl rfl
theorem w_1411 : Cond.selects "OffOnTheSecondModel" yX11_sheet yX11_sheet ∈ mx_TT := mx_in_c wk_1400 11 rfl rfl
theorem w_1412 : Cond.code yX11_sheet prog_13_method_85_code 5 (some (.int)) ∈ mx_TT := mx_in_c wk_1400 12 rfl rfl
theorem w_1413 : Cond.methodLink "OffOnTheSecondLaw" 145 yX11_put ∈ mx_TT := mx_in_c wk_1400 13 rfl rfl
theorem w_1414 : Cond.instanceMethod yX11_put ∈ mx_TT := mx_in_c wk_1400 14 rfl rfl
theorem w_1415 : Cond.selects "OffOnTheSecondModel" yX11_put yX11_put ∈ mx_TT := mx_in_c wk_1400 15 rfl rfl
theorem w_1416 : Cond.code yX11_put prog_13_method_86_code 5 (some (.int)) ∈ mx_TT := mx_in_c wk_1400 16 rfl rfl
theorem w_1417 : Cond.methodLink "OffOnTheSecondLaw" 150 yX11_move ∈ mx_TT := mx_in_c wk_1400 17 rfl rfl
theorem w_1418 : Cond.instanceMethod yX11_move ∈ mx_TT := mx_in_c wk_1400 18 rfl rfl
theorem w_1419 : Cond.selects "OffOnTheSecondModel" yX11_move yX11_move ∈ mx_TT := mx_in_c wk_1400 19 rfl rfl
theorem w_1420 : Cond.code yX11_move prog_13_method_87_code 7 (some (.int)) ∈ mx_TT := mx_in_c wk_1400 20 rfl rfl
theorem w_1421 : Cond.methodLink "OffOnTheSecondLaw" 154 yX11_truths ∈ mx_TT := mx_in_c wk_1400 21 rfl rfl
theorem w_1422 : Cond.instanceMethod yX11_truths ∈ mx_TT := mx_in_c wk_1400 22 rfl rfl
theorem w_1423 : Cond.selects "OffOnTheSecondModel" yX11_truths yX11_truths ∈ mx_TT := mx_in_c wk_1400 23 rfl rfl
theorem w_1424 : Cond.code yX11_truths prog_13_method_89_code 4 (some (.int)) ∈ mx_TT := mx_in_c wk_1400 24 rfl rfl
theorem w_1425 : Cond.methodLink "OffOnTheSecondLaw" 158 yX11_judge ∈ mx_TT := mx_in_c wk_1425 0 rfl rfl
theorem w_1426 : Cond.instanceMethod yX11_judge ∈ mx_TT := mx_in_c wk_1425 1 rfl rfl
theorem w_1427 : Cond.selects "OffOnTheSecondModel" yX11_judge yX11_judge ∈ mx_TT := mx_in_c wk_1425 2 rfl rfl
theorem w_1428 : Cond.code yX11_judge prog_13_method_90_code 7 (some (.int)) ∈ mx_TT := mx_in_c wk_1425 3 rfl rfl
theorem w_1429 : Cond.methodLink "OffOnTheSecondLaw" 162 yX11_image ∈ mx_TT := mx_in_c wk_1425 4 rfl rfl
theorem w_1430 : Cond.instanceMethod yX11_image ∈ mx_TT := mx_in_c wk_1425 5 rfl rfl
theorem w_1431 : Cond.selects "OffOnTheSecondModel" yX11_image yX11_image ∈ mx_TT := mx_in_c wk_1425 6 rfl rfl
theorem w_1432 : Cond.code yX11_image prog_13_method_91_code 1 (some (.int)) ∈ mx_TT := mx_in_c wk_1425 7 rfl rfl
theorem w_1433 : Cond.methodLink "OffOnTheSecondModel" 264 yX11_copyAll ∈ mx_TT := mx_in_c wk_1425 8 rfl rfl
theorem w_1434 : Cond.static yX11_copyAll ∈ mx_TT := mx_in_c wk_1425 9 rfl rfl
theorem w_1435 : Cond.code yX11_copyAll prog_13_method_5_code 3 none ∈ mx_TT := mx_in_c wk_1425 10 rfl rfl
theorem w_1436 : Cond.methodLink "OffOnTheSecondLaw" 166 yX11_restore ∈ mx_TT := mx_in_c wk_1425 11 rfl rfl
theorem w_1437 : Cond.instanceMethod yX11_restore ∈ mx_TT := mx_in_c wk_1425 12 rfl rfl
theorem w_1438 : Cond.selects "OffOnTheSecondModel" yX11_restore yX11_restore ∈ mx_TT := mx_in_c wk_1425 13 rfl rfl
theorem w_1439 : Cond.code yX11_restore prog_13_method_92_code 1 (some (.int)) ∈ mx_TT := mx_in_c wk_1425 14 rfl rfl
theorem w_1440 : Cond.methodLink "OffOnTheSecondLaw" 170 yX11_tell ∈ mx_TT := mx_in_c wk_1425 15 rfl rfl
theorem w_1441 : Cond.instanceMethod yX11_tell ∈ mx_TT := mx_in_c wk_1425 16 rfl rfl
theorem w_1442 : Cond.selects "OffOnTheSecondModel" yX11_tell yX11_tell ∈ mx_TT := mx_in_c wk_1425 17 rfl rfl
theorem w_1443 : Cond.code yX11_tell prog_13_method_93_code 2 (some (.int)) ∈ mx_TT := mx_in_c wk_1425 18 rfl rfl
theorem w_1444 : Cond.methodLink "OffOnTheSecondLaw" 174 yX11_check ∈ mx_TT := mx_in_c wk_1425 19 rfl rfl
theorem w_1445 : Cond.instanceMethod yX11_check ∈ mx_TT := mx_in_c wk_1425 20 rfl rfl
theorem w_1446 : Cond.selects "OffOnTheSecondModel" yX11_check yX11_check ∈ mx_TT := mx_in_c wk_1425 21 rfl rfl
theorem w_1447 : Cond.code yX11_check prog_13_method_94_code 3 (some (.int)) ∈ mx_TT := mx_in_c wk_1425 22 rfl rfl
theorem w_1448 : Cond.methodLink "OffOnTheSecondLaw" 178 yX11_count ∈ mx_TT := mx_in_c wk_1425 23 rfl rfl
theorem w_1449 : Cond.instanceMethod yX11_count ∈ mx_TT := mx_in_c wk_1425 24 rfl rfl
theorem w_1450 : Cond.selects "OffOnTheSecondModel" yX11_count yX11_count ∈ mx_TT := mx_in_c wk_1450 0 rfl rfl
theorem w_1451 : Cond.code yX11_count prog_13_method_95_code 2 (some (.int)) ∈ mx_TT := mx_in_c wk_1450 1 rfl rfl
theorem w_1452 : Cond.methodLink "OffOnTheSecondLaw" 182 yX11_told ∈ mx_TT := mx_in_c wk_1450 2 rfl rfl
theorem w_1453 : Cond.instanceMethod yX11_told ∈ mx_TT := mx_in_c wk_1450 3 rfl rfl
theorem w_1454 : Cond.selects "OffOnTheSecondModel" yX11_told yX11_told ∈ mx_TT := mx_in_c wk_1450 4 rfl rfl
theorem w_1455 : Cond.code yX11_told prog_13_method_96_code 2 (some (.int)) ∈ mx_TT := mx_in_c wk_1450 5 rfl rfl
theorem w_1456 : Cond.constantLong "OffOnTheSecondLaw" 42 (4294967295) ∈ mx_TT := mx_in_c wk_1450 6 rfl rfl
theorem in_0 : ∀ w ∈ u_ws RX0 TX0 6, w ∈ mx_TT := fun w hw => by
  obtain ⟨k, hk, rfl⟩ := List.mem_map.mp hw
  have hk := List.mem_range.mp hk
  rcases (show k = 0 ∨ k = 1 ∨ k = 2 ∨ k = 3 ∨ k = 4 ∨ k = 5 by omega) with rfl | rfl | rfl | rfl | rfl | rfl
  · exact mx_in_c wk_150 2 rfl rfl
  · exact mx_in_c wk_150 4 rfl rfl
  · exact mx_in_c wk_150 6 rfl rfl
  · exact mx_in_c wk_150 8 rfl rfl
  · exact mx_in_c wk_150 10 rfl rfl
  · exact mx_in_c wk_150 12 rfl rfl
theorem cls_0 : mx_Cls 0 RX0 TX0 6 tyX0 := ⟨rfl, by decide, in_0, fun a h => mx_lay_cls (by decide) (by decide +kernel) h, tyX0_ok, nmX0⟩
theorem df_0 : ∀ k, k < 6 → defaultValue (tyX0 k) = (if mx_fty 0 k = 0 then .int 0 else if mx_fty 0 k = 1 then .long 0 else .null) := by
  intro k hk
  rcases (show k = 0 ∨ k = 1 ∨ k = 2 ∨ k = 3 ∨ k = 4 ∨ k = 5 by omega) with rfl | rfl | rfl | rfl | rfl | rfl <;> rfl
theorem in_1 : ∀ w ∈ u_ws RX1 TX1 2, w ∈ mx_TT := fun w hw => by
  obtain ⟨k, hk, rfl⟩ := List.mem_map.mp hw
  have hk := List.mem_range.mp hk
  rcases (show k = 0 ∨ k = 1 by omega) with rfl | rfl
  · exact mx_in_c wk_100 22 rfl rfl
  · exact mx_in_c wk_100 24 rfl rfl
theorem cls_1 : mx_Cls 1 RX1 TX1 2 tyX1 := ⟨rfl, by decide, in_1, fun a h => mx_lay_cls (by decide) (by decide +kernel) h, tyX1_ok, nmX1⟩
theorem df_1 : ∀ k, k < 2 → defaultValue (tyX1 k) = (if mx_fty 1 k = 0 then .int 0 else if mx_fty 1 k = 1 then .long 0 else .null) := by
  intro k hk
  rcases (show k = 0 ∨ k = 1 by omega) with rfl | rfl <;> rfl
theorem in_2 : ∀ w ∈ u_ws RX2 TX2 3, w ∈ mx_TT := fun w hw => by
  obtain ⟨k, hk, rfl⟩ := List.mem_map.mp hw
  have hk := List.mem_range.mp hk
  rcases (show k = 0 ∨ k = 1 ∨ k = 2 by omega) with rfl | rfl | rfl
  · exact mx_in_c wk_300 16 rfl rfl
  · exact mx_in_c wk_300 18 rfl rfl
  · exact mx_in_c wk_300 20 rfl rfl
theorem cls_2 : mx_Cls 2 RX2 TX2 3 tyX2 := ⟨rfl, by decide, in_2, fun a h => mx_lay_cls (by decide) (by decide +kernel) h, tyX2_ok, nmX2⟩
theorem df_2 : ∀ k, k < 3 → defaultValue (tyX2 k) = (if mx_fty 2 k = 0 then .int 0 else if mx_fty 2 k = 1 then .long 0 else .null) := by
  intro k hk
  rcases (show k = 0 ∨ k = 1 ∨ k = 2 by omega) with rfl | rfl | rfl <;> rfl
theorem in_3 : ∀ w ∈ u_ws RX3 TX3 5, w ∈ mx_TT := fun w hw => by
  obtain ⟨k, hk, rfl⟩ := List.mem_map.mp hw
  have hk := List.mem_range.mp hk
  rcases (show k = 0 ∨ k = 1 ∨ k = 2 ∨ k = 3 ∨ k = 4 by omega) with rfl | rfl | rfl | rfl | rfl
  · exact mx_in_c wk_225 15 rfl rfl
  · exact mx_in_c wk_225 17 rfl rfl
  · exact mx_in_c wk_225 19 rfl rfl
  · exact mx_in_c wk_225 21 rfl rfl
  · exact mx_in_c wk_225 23 rfl rfl
theorem cls_3 : mx_Cls 3 RX3 TX3 5 tyX3 := ⟨rfl, by decide, in_3, fun a h => mx_lay_cls (by decide) (by decide +kernel) h, tyX3_ok, nmX3⟩
theorem df_3 : ∀ k, k < 5 → defaultValue (tyX3 k) = (if mx_fty 3 k = 0 then .int 0 else if mx_fty 3 k = 1 then .long 0 else .null) := by
  intro k hk
  rcases (show k = 0 ∨ k = 1 ∨ k = 2 ∨ k = 3 ∨ k = 4 by omega) with rfl | rfl | rfl | rfl | rfl <;> rfl
theorem in_4 : ∀ w ∈ u_ws RX4 TX4 5, w ∈ mx_TT := fun w hw => by
  obtain ⟨k, hk, rfl⟩ := List.mem_map.mp hw
  have hk := List.mem_range.mp hk
  rcases (show k = 0 ∨ k = 1 ∨ k = 2 ∨ k = 3 ∨ k = 4 by omega) with rfl | rfl | rfl | rfl | rfl
  · exact mx_in_c wk_275 19 rfl rfl
  · exact mx_in_c wk_275 21 rfl rfl
  · exact mx_in_c wk_275 23 rfl rfl
  · exact mx_in_c wk_300 0 rfl rfl
  · exact mx_in_c wk_300 2 rfl rfl
theorem cls_4 : mx_Cls 4 RX4 TX4 5 tyX4 := ⟨rfl, by decide, in_4, fun a h => mx_lay_cls (by decide) (by decide +kernel) h, tyX4_ok, nmX4⟩
theorem df_4 : ∀ k, k < 5 → defaultValue (tyX4 k) = (if mx_fty 4 k = 0 then .int 0 else if mx_fty 4 k = 1 then .long 0 else .null) := by
  intro k hk
  rcases (show k = 0 ∨ k = 1 ∨ k = 2 ∨ k = 3 ∨ k = 4 by omega) with rfl | rfl | rfl | rfl | rfl <;> rfl
theorem in_5 : ∀ w ∈ u_ws RX5 TX5 6, w ∈ mx_TT := fun w hw => by
  obtain ⟨k, hk, rfl⟩ := List.mem_map.mp hw
  have hk := List.mem_range.mp hk
  rcases (show k = 0 ∨ k = 1 ∨ k = 2 ∨ k = 3 ∨ k = 4 ∨ k = 5 by omega) with rfl | rfl | rfl | rfl | rfl | rfl
  · exact mx_in_c wk_250 16 rfl rfl
  · exact mx_in_c wk_250 18 rfl rfl
  · exact mx_in_c wk_250 20 rfl rfl
  · exact mx_in_c wk_250 22 rfl rfl
  · exact mx_in_c wk_250 24 rfl rfl
  · exact mx_in_c wk_275 1 rfl rfl
theorem cls_5 : mx_Cls 5 RX5 TX5 6 tyX5 := ⟨rfl, by decide, in_5, fun a h => mx_lay_cls (by decide) (by decide +kernel) h, tyX5_ok, nmX5⟩
theorem df_5 : ∀ k, k < 6 → defaultValue (tyX5 k) = (if mx_fty 5 k = 0 then .int 0 else if mx_fty 5 k = 1 then .long 0 else .null) := by
  intro k hk
  rcases (show k = 0 ∨ k = 1 ∨ k = 2 ∨ k = 3 ∨ k = 4 ∨ k = 5 by omega) with rfl | rfl | rfl | rfl | rfl | rfl <;> rfl
theorem in_6 : ∀ w ∈ u_ws RX6 TX6 2, w ∈ mx_TT := fun w hw => by
  obtain ⟨k, hk, rfl⟩ := List.mem_map.mp hw
  have hk := List.mem_range.mp hk
  rcases (show k = 0 ∨ k = 1 by omega) with rfl | rfl
  · exact mx_in_c wk_350 13 rfl rfl
  · exact mx_in_c wk_350 15 rfl rfl
theorem cls_6 : mx_Cls 6 RX6 TX6 2 tyX6 := ⟨rfl, by decide, in_6, fun a h => mx_lay_cls (by decide) (by decide +kernel) h, tyX6_ok, nmX6⟩
theorem df_6 : ∀ k, k < 2 → defaultValue (tyX6 k) = (if mx_fty 6 k = 0 then .int 0 else if mx_fty 6 k = 1 then .long 0 else .null) := by
  intro k hk
  rcases (show k = 0 ∨ k = 1 by omega) with rfl | rfl <;> rfl
theorem in_7 : ∀ w ∈ u_ws RX7 TX7 9, w ∈ mx_TT := fun w hw => by
  obtain ⟨k, hk, rfl⟩ := List.mem_map.mp hw
  have hk := List.mem_range.mp hk
  rcases (show k = 0 ∨ k = 1 ∨ k = 2 ∨ k = 3 ∨ k = 4 ∨ k = 5 ∨ k = 6 ∨ k = 7 ∨ k = 8 by omega) with rfl | rfl | rfl | rfl | rfl | rfl | rfl | rfl | rfl
  · exact mx_in_c wk_200 5 rfl rfl
  · exact mx_in_c wk_200 7 rfl rfl
  · exact mx_in_c wk_200 9 rfl rfl
  · exact mx_in_c wk_200 11 rfl rfl
  · exact mx_in_c wk_200 13 rfl rfl
  · exact mx_in_c wk_200 15 rfl rfl
  · exact mx_in_c wk_200 17 rfl rfl
  · exact mx_in_c wk_200 19 rfl rfl
  · exact mx_in_c wk_200 21 rfl rfl
theorem cls_7 : mx_Cls 7 RX7 TX7 9 tyX7 := ⟨rfl, by decide, in_7, fun a h => mx_lay_cls (by decide) (by decide +kernel) h, tyX7_ok, nmX7⟩
theorem df_7 : ∀ k, k < 9 → defaultValue (tyX7 k) = (if mx_fty 7 k = 0 then .int 0 else if mx_fty 7 k = 1 then .long 0 else .null) := by
  intro k hk
  rcases (show k = 0 ∨ k = 1 ∨ k = 2 ∨ k = 3 ∨ k = 4 ∨ k = 5 ∨ k = 6 ∨ k = 7 ∨ k = 8 by omega) with rfl | rfl | rfl | rfl | rfl | rfl | rfl | rfl | rfl <;> rfl
theorem in_8 : ∀ w ∈ u_ws RX8 TX8 3, w ∈ mx_TT := fun w hw => by
  obtain ⟨k, hk, rfl⟩ := List.mem_map.mp hw
  have hk := List.mem_range.mp hk
  rcases (show k = 0 ∨ k = 1 ∨ k = 2 by omega) with rfl | rfl | rfl
  · exact mx_in_c wk_175 4 rfl rfl
  · exact mx_in_c wk_175 6 rfl rfl
  · exact mx_in_c wk_175 8 rfl rfl
theorem cls_8 : mx_Cls 8 RX8 TX8 3 tyX8 := ⟨rfl, by decide, in_8, fun a h => mx_lay_cls (by decide) (by decide +kernel) h, tyX8_ok, nmX8⟩
theorem df_8 : ∀ k, k < 3 → defaultValue (tyX8 k) = (if mx_fty 8 k = 0 then .int 0 else if mx_fty 8 k = 1 then .long 0 else .null) := by
  intro k hk
  rcases (show k = 0 ∨ k = 1 ∨ k = 2 by omega) with rfl | rfl | rfl <;> rfl
theorem in_9 : ∀ w ∈ u_ws RX9 TX9 5, w ∈ mx_TT := fun w hw => by
  obtain ⟨k, hk, rfl⟩ := List.mem_map.mp hw
  have hk := List.mem_range.mp hk
  rcases (show k = 0 ∨ k = 1 ∨ k = 2 ∨ k = 3 ∨ k = 4 by omega) with rfl | rfl | rfl | rfl | rfl
  · exact mx_in_c wk_325 14 rfl rfl
  · exact mx_in_c wk_325 16 rfl rfl
  · exact mx_in_c wk_325 18 rfl rfl
  · exact mx_in_c wk_325 20 rfl rfl
  · exact mx_in_c wk_325 22 rfl rfl
theorem cls_9 : mx_Cls 9 RX9 TX9 5 tyX9 := ⟨rfl, by decide, in_9, fun a h => mx_lay_cls (by decide) (by decide +kernel) h, tyX9_ok, nmX9⟩
theorem df_9 : ∀ k, k < 5 → defaultValue (tyX9 k) = (if mx_fty 9 k = 0 then .int 0 else if mx_fty 9 k = 1 then .long 0 else .null) := by
  intro k hk
  rcases (show k = 0 ∨ k = 1 ∨ k = 2 ∨ k = 3 ∨ k = 4 by omega) with rfl | rfl | rfl | rfl | rfl <;> rfl
theorem in_10 : ∀ w ∈ u_ws RX10 TX10 10, w ∈ mx_TT := fun w hw => by
  obtain ⟨k, hk, rfl⟩ := List.mem_map.mp hw
  have hk := List.mem_range.mp hk
  rcases (show k = 0 ∨ k = 1 ∨ k = 2 ∨ k = 3 ∨ k = 4 ∨ k = 5 ∨ k = 6 ∨ k = 7 ∨ k = 8 ∨ k = 9 by omega) with rfl | rfl | rfl | rfl | rfl | rfl | rfl | rfl | rfl | rfl
  · exact mx_in_c wk_375 3 rfl rfl
  · exact mx_in_c wk_375 5 rfl rfl
  · exact mx_in_c wk_375 7 rfl rfl
  · exact mx_in_c wk_375 9 rfl rfl
  · exact mx_in_c wk_375 11 rfl rfl
  · exact mx_in_c wk_375 13 rfl rfl
  · exact mx_in_c wk_375 15 rfl rfl
  · exact mx_in_c wk_375 17 rfl rfl
  · exact mx_in_c wk_375 19 rfl rfl
  · exact mx_in_c wk_375 21 rfl rfl
theorem cls_10 : mx_Cls 10 RX10 TX10 10 tyX10 := ⟨rfl, by decide, in_10, fun a h => mx_lay_cls (by decide) (by decide +kernel) h, tyX10_ok, nmX10⟩
theorem df_10 : ∀ k, k < 10 → defaultValue (tyX10 k) = (if mx_fty 10 k = 0 then .int 0 else if mx_fty 10 k = 1 then .long 0 else .null) := by
  intro k hk
  rcases (show k = 0 ∨ k = 1 ∨ k = 2 ∨ k = 3 ∨ k = 4 ∨ k = 5 ∨ k = 6 ∨ k = 7 ∨ k = 8 ∨ k = 9 by omega) with rfl | rfl | rfl | rfl | rfl | rfl | rfl | rfl | rfl | rfl <;> rfl
theorem in_11 : ∀ w ∈ u_ws RX11 TX11 25, w ∈ mx_TT := fun w hw => by
  obtain ⟨k, hk, rfl⟩ := List.mem_map.mp hw
  have hk := List.mem_range.mp hk
  rcases (show k = 0 ∨ k = 1 ∨ k = 2 ∨ k = 3 ∨ k = 4 ∨ k = 5 ∨ k = 6 ∨ k = 7 ∨ k = 8 ∨ k = 9 ∨ k = 10 ∨ k = 11 ∨ k = 12 ∨ k = 13 ∨ k = 14 ∨ k = 15 ∨ k = 16 ∨ k = 17 ∨ k = 18 ∨ k = 19 ∨ k = 20 ∨ k = 21 ∨ k = 22 ∨ k = 23 ∨ k = 24 by omega) with rfl | rfl | rfl | rfl | rfl | rfl | rfl | rfl | rfl | rfl | rfl | rfl | rfl | rfl | rfl | rfl | rfl | rfl | rfl | rfl | rfl | rfl | rfl | rfl | rfl
  · exact mx_in_c wk_1025 6 rfl rfl
  · exact mx_in_c wk_1025 8 rfl rfl
  · exact mx_in_c wk_1025 10 rfl rfl
  · exact mx_in_c wk_1025 12 rfl rfl
  · exact mx_in_c wk_1025 14 rfl rfl
  · exact mx_in_c wk_1025 16 rfl rfl
  · exact mx_in_c wk_1025 18 rfl rfl
  · exact mx_in_c wk_1025 20 rfl rfl
  · exact mx_in_c wk_1025 22 rfl rfl
  · exact mx_in_c wk_1025 24 rfl rfl
  · exact mx_in_c wk_1050 1 rfl rfl
  · exact mx_in_c wk_1050 3 rfl rfl
  · exact mx_in_c wk_1050 5 rfl rfl
  · exact mx_in_c wk_1050 7 rfl rfl
  · exact mx_in_c wk_1050 9 rfl rfl
  · exact mx_in_c wk_1050 11 rfl rfl
  · exact mx_in_c wk_1050 13 rfl rfl
  · exact mx_in_c wk_1050 15 rfl rfl
  · exact mx_in_c wk_1050 17 rfl rfl
  · exact mx_in_c wk_1050 19 rfl rfl
  · exact mx_in_c wk_1050 21 rfl rfl
  · exact mx_in_c wk_1050 23 rfl rfl
  · exact mx_in_c wk_1075 0 rfl rfl
  · exact mx_in_c wk_1075 2 rfl rfl
  · exact mx_in_c wk_1075 4 rfl rfl
theorem cls_11 : mx_Cls 11 RX11 TX11 25 tyX11 := ⟨rfl, by decide, in_11, fun a h => mx_lay_cls (by decide) (by decide +kernel) h, tyX11_ok, nmX11⟩
theorem df_11 : ∀ k, k < 25 → defaultValue (tyX11 k) = (if mx_fty 11 k = 0 then .int 0 else if mx_fty 11 k = 1 then .long 0 else .null) := by
  intro k hk
  rcases (show k = 0 ∨ k = 1 ∨ k = 2 ∨ k = 3 ∨ k = 4 ∨ k = 5 ∨ k = 6 ∨ k = 7 ∨ k = 8 ∨ k = 9 ∨ k = 10 ∨ k = 11 ∨ k = 12 ∨ k = 13 ∨ k = 14 ∨ k = 15 ∨ k = 16 ∨ k = 17 ∨ k = 18 ∨ k = 19 ∨ k = 20 ∨ k = 21 ∨ k = 22 ∨ k = 23 ∨ k = 24 by omega) with rfl | rfl | rfl | rfl | rfl | rfl | rfl | rfl | rfl | rfl | rfl | rfl | rfl | rfl | rfl | rfl | rfl | rfl | rfl | rfl | rfl | rfl | rfl | rfl | rfl <;> rfl
