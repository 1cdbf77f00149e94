theorem gm_0 {w : Cond} (i : Nat) (h : (k2_sels lw_privs)[i]? = some w) (g : goodWord w = true) : w ∈ gt := List.mem_filter.mpr ⟨List.mem_append_left _ (List.mem_of_getElem? h), g⟩
theorem gm_1 {w : Cond} (i : Nat) (h : tables_1_1[i]? = some w) (g : goodWord w = true) : w ∈ gt := List.mem_filter.mpr ⟨List.mem_append_right _ (List.mem_append_left _ (List.mem_of_getElem? h)), g⟩
theorem gm_2 {w : Cond} (i : Nat) (h : tables_1_2[i]? = some w) (g : goodWord w = true) : w ∈ gt := List.mem_filter.mpr ⟨List.mem_append_right _ (List.mem_append_right _ (List.mem_append_left _ (List.mem_of_getElem? h))), g⟩
theorem gm_3 {w : Cond} (i : Nat) (h : tables_1_3[i]? = some w) (g : goodWord w = true) : w ∈ gt := List.mem_filter.mpr ⟨List.mem_append_right _ (List.mem_append_right _ (List.mem_append_right _ (List.mem_append_left _ (List.mem_of_getElem? h)))), g⟩
theorem gm_4 {w : Cond} (i : Nat) (h : tables_1_4[i]? = some w) (g : goodWord w = true) : w ∈ gt := List.mem_filter.mpr ⟨List.mem_append_right _ (List.mem_append_right _ (List.mem_append_right _ (List.mem_append_right _ (List.mem_append_left _ (List.mem_of_getElem? h))))), g⟩
theorem gm_5 {w : Cond} (i : Nat) (h : tables_1_5[i]? = some w) (g : goodWord w = true) : w ∈ gt := List.mem_filter.mpr ⟨List.mem_append_right _ (List.mem_append_right _ (List.mem_append_right _ (List.mem_append_right _ (List.mem_append_right _ (List.mem_append_left _ (List.mem_of_getElem? h)))))), g⟩
theorem gm_6 {w : Cond} (i : Nat) (h : tables_1_6[i]? = some w) (g : goodWord w = true) : w ∈ gt := List.mem_filter.mpr ⟨List.mem_append_right _ (List.mem_append_right _ (List.mem_append_right _ (List.mem_append_right _ (List.mem_append_right _ (List.mem_append_right _ (List.mem_of_getElem? h)))))), g⟩
abbrev fX0_isKind (d : Nat) : xF := (yX0_isKind, cX0_isKind, 1, (some .boolean), false, false, d, 0, 0)
set_option maxRecDepth 100000 in
theorem cd_X0_isKind : Cond.code yX0_isKind cX0_isKind 1 (some .boolean) ∈ gt := gm_1 198 rfl rfl
abbrev fX0_widens (d : Nat) : xF := (yX0_widens, cX0_widens, 2, (some .boolean), false, false, d, 0, 0)
set_option maxRecDepth 100000 in
theorem cd_X0_widens : Cond.code yX0_widens cX0_widens 2 (some .boolean) ∈ gt := gm_2 53 rfl rfl
abbrev fX0_fits (d : Nat) : xF := (yX0_fits, cX0_fits, 3, (some .boolean), false, false, d, 0, 0)
set_option maxRecDepth 100000 in
theorem cd_X0_fits : Cond.code yX0_fits cX0_fits 3 (some .boolean) ∈ gt := gm_2 118 rfl rfl
abbrev fX0_passed (d : Nat) : xF := (yX0_passed, cX0_passed, 3, (some .long), false, false, d, 0, 0)
set_option maxRecDepth 100000 in
theorem cd_X0_passed : Cond.code yX0_passed cX0_passed 3 (some .long) ∈ gt := gm_2 125 rfl rfl
abbrev fX0_widened (d : Nat) : xF := (yX0_widened, cX0_widened, 4, (some .long), false, false, d, 0, 0)
set_option maxRecDepth 100000 in
theorem cd_X0_widened : Cond.code yX0_widened cX0_widened 4 (some .long) ∈ gt := gm_2 67 rfl rfl
abbrev fX0_bitsOf (d : Nat) : xF := (yX0_bitsOf, cX0_bitsOf, 8, (some .long), false, false, d, 0, 0)
set_option maxRecDepth 100000 in
theorem cd_X0_bitsOf : Cond.code yX0_bitsOf cX0_bitsOf 8 (some .long) ∈ gt := gm_2 93 rfl rfl
abbrev fX0_scaledBits (d : Nat) : xF := (yX0_scaledBits, cX0_scaledBits, 12, (some .long), false, false, d, 0, 0)
set_option maxRecDepth 100000 in
theorem cd_X0_scaledBits : Cond.code yX0_scaledBits cX0_scaledBits 12 (some .long) ∈ gt := gm_2 100 rfl rfl
abbrev fX0_real (d : Nat) : xF := (yX0_real, cX0_real, 7, (some .double), false, false, d, 0, 0)
set_option maxRecDepth 100000 in
theorem cd_X0_real : Cond.code yX0_real cX0_real 7 (some .double) ∈ gt := gm_2 70 rfl rfl
abbrev fX0_oddPart (d : Nat) : xF := (yX0_oddPart, cX0_oddPart, 9, (some .long), false, false, d, 0, 0)
set_option maxRecDepth 100000 in
theorem cd_X0_oddPart : Cond.code yX0_oddPart cX0_oddPart 9 (some .long) ∈ gt := gm_2 73 rfl rfl
abbrev fX0_powerPart (d : Nat) : xF := (yX0_powerPart, cX0_powerPart, 5, (some .int), false, false, d, 0, 0)
set_option maxRecDepth 100000 in
theorem cd_X0_powerPart : Cond.code yX0_powerPart cX0_powerPart 5 (some .int) ∈ gt := gm_2 84 rfl rfl
abbrev fX1_init (d : Nat) : xF := (yX1_init, cX1_init, 3, none, true, true, d, 37, 348)
set_option maxRecDepth 100000 in
theorem cd_X1_init : Cond.code yX1_init cX1_init 3 none ∈ gt := gm_1 43 rfl rfl
abbrev fX1_takeItem (d : Nat) : xF := (yX1_takeItem, cX1_takeItem, 5, (some .boolean), false, false, d, 0, 0)
set_option maxRecDepth 100000 in
theorem cd_X1_takeItem : Cond.code yX1_takeItem cX1_takeItem 5 (some .boolean) ∈ gt := gm_3 106 rfl rfl
abbrev fX1_mayHaveLookedAt (d : Nat) : xF := (yX1_mayHaveLookedAt, cX1_mayHaveLookedAt, 2, (some .boolean), false, false, d, 0, 0)
set_option maxRecDepth 100000 in
theorem cd_X1_mayHaveLookedAt : Cond.code yX1_mayHaveLookedAt cX1_mayHaveLookedAt 2 (some .boolean) ∈ gt := gm_3 213 rfl rfl
abbrev fX1_failAt (d : Nat) : xF := (yX1_failAt, cX1_failAt, 2, (some .boolean), false, false, d, 0, 0)
set_option maxRecDepth 100000 in
theorem cd_X1_failAt : Cond.code yX1_failAt cX1_failAt 2 (some .boolean) ∈ gt := gm_3 118 rfl rfl
abbrev fX1_isArrayTag (d : Nat) : xF := (yX1_isArrayTag, cX1_isArrayTag, 1, (some .boolean), false, false, d, 0, 0)
set_option maxRecDepth 100000 in
theorem cd_X1_isArrayTag : Cond.code yX1_isArrayTag cX1_isArrayTag 1 (some .boolean) ∈ gt := gm_3 110 rfl rfl
abbrev fX1_takeArray (d : Nat) : xF := (yX1_takeArray, cX1_takeArray, 4, (some .boolean), false, false, d, 0, 0)
set_option maxRecDepth 100000 in
theorem cd_X1_takeArray : Cond.code yX1_takeArray cX1_takeArray 4 (some .boolean) ∈ gt := gm_3 114 rfl rfl
abbrev fX1_takeObjects (d : Nat) : xF := (yX1_takeObjects, cX1_takeObjects, 6, (some .boolean), false, false, d, 0, 0)
set_option maxRecDepth 100000 in
theorem cd_X1_takeObjects : Cond.code yX1_takeObjects cX1_takeObjects 6 (some .boolean) ∈ gt := gm_3 158 rfl rfl
abbrev fX1_mayStand (d : Nat) : xF := (yX1_mayStand, cX1_mayStand, 2, (some .boolean), false, false, d, 0, 0)
set_option maxRecDepth 100000 in
theorem cd_X1_mayStand : Cond.code yX1_mayStand cX1_mayStand 2 (some .boolean) ∈ gt := gm_3 161 rfl rfl
abbrev fX1_takeElement (d : Nat) : xF := (yX1_takeElement, cX1_takeElement, 3, (some .boolean), false, false, d, 0, 0)
set_option maxRecDepth 100000 in
theorem cd_X1_takeElement : Cond.code yX1_takeElement cX1_takeElement 3 (some .boolean) ∈ gt := gm_3 165 rfl rfl
abbrev fX1_takeWord (d : Nat) : xF := (yX1_takeWord, cX1_takeWord, 4, (some .boolean), false, false, d, 0, 0)
set_option maxRecDepth 100000 in
theorem cd_X1_takeWord : Cond.code yX1_takeWord cX1_takeWord 4 (some .boolean) ∈ gt := gm_3 169 rfl rfl
abbrev fX1_takeBead (d : Nat) : xF := (yX1_takeBead, cX1_takeBead, 2, (some .boolean), false, false, d, 0, 0)
set_option maxRecDepth 100000 in
theorem cd_X1_takeBead : Cond.code yX1_takeBead cX1_takeBead 2 (some .boolean) ∈ gt := gm_3 175 rfl rfl
abbrev fX1_takeBackLink (d : Nat) : xF := (yX1_takeBackLink, cX1_takeBackLink, 3, (some .boolean), false, false, d, 0, 0)
set_option maxRecDepth 100000 in
theorem cd_X1_takeBackLink : Cond.code yX1_takeBackLink cX1_takeBackLink 3 (some .boolean) ∈ gt := gm_3 180 rfl rfl
abbrev fX1_takeFlat (d : Nat) : xF := (yX1_takeFlat, cX1_takeFlat, 3, (some .boolean), false, false, d, 0, 0)
set_option maxRecDepth 100000 in
theorem cd_X1_takeFlat : Cond.code yX1_takeFlat cX1_takeFlat 3 (some .boolean) ∈ gt := gm_3 154 rfl rfl
abbrev fX1_takeRuns (d : Nat) : xF := (yX1_takeRuns, cX1_takeRuns, 4, (some .boolean), false, false, d, 0, 0)
set_option maxRecDepth 100000 in
theorem cd_X1_takeRuns : Cond.code yX1_takeRuns cX1_takeRuns 4 (some .boolean) ∈ gt := gm_3 123 rfl rfl
abbrev fX1_takeSteps (d : Nat) : xF := (yX1_takeSteps, cX1_takeSteps, 6, (some .boolean), false, false, d, 0, 0)
set_option maxRecDepth 100000 in
theorem cd_X1_takeSteps : Cond.code yX1_takeSteps cX1_takeSteps 6 (some .boolean) ∈ gt := gm_3 145 rfl rfl
abbrev fX1_takeStep (d : Nat) : xF := (yX1_takeStep, cX1_takeStep, 5, (some .boolean), false, false, d, 0, 0)
set_option maxRecDepth 100000 in
theorem cd_X1_takeStep : Cond.code yX1_takeStep cX1_takeStep 5 (some .boolean) ∈ gt := gm_3 149 rfl rfl
abbrev fX1_takeNumber (d : Nat) : xF := (yX1_takeNumber, cX1_takeNumber, 8, (some .boolean), false, false, d, 0, 0)
set_option maxRecDepth 100000 in
theorem cd_X1_takeNumber : Cond.code yX1_takeNumber cX1_takeNumber 8 (some .boolean) ∈ gt := gm_3 127 rfl rfl
abbrev fX1_isScaled (d : Nat) : xF := (yX1_isScaled, cX1_isScaled, 7, (some .boolean), false, false, d, 0, 0)
set_option maxRecDepth 100000 in
theorem cd_X1_isScaled : Cond.code yX1_isScaled cX1_isScaled 7 (some .boolean) ∈ gt := gm_3 137 rfl rfl
abbrev fX1_signedAt (d : Nat) : xF := (yX1_signedAt, cX1_signedAt, 6, (some .long), false, false, d, 0, 0)
set_option maxRecDepth 100000 in
theorem cd_X1_signedAt : Cond.code yX1_signedAt cX1_signedAt 6 (some .long) ∈ gt := gm_3 132 rfl rfl
abbrev fX2_init (d : Nat) : xF := (yX2_init, cX2_init, 1, none, true, true, d, 2, 24)
set_option maxRecDepth 100000 in
theorem cd_X2_init : Cond.code yX2_init cX2_init 1 none ∈ gt := gm_1 49 rfl rfl
abbrev fX2_isEmpty (d : Nat) : xF := (yX2_isEmpty, cX2_isEmpty, 1, (some .boolean), false, false, d, 0, 0)
set_option maxRecDepth 100000 in
theorem cd_X2_isEmpty : Cond.code yX2_isEmpty cX2_isEmpty 1 (some .boolean) ∈ gt := gm_1 183 rfl rfl
abbrev fX2_isArray (d : Nat) : xF := (yX2_isArray, cX2_isArray, 1, (some .boolean), false, false, d, 0, 0)
set_option maxRecDepth 100000 in
theorem cd_X2_isArray : Cond.code yX2_isArray cX2_isArray 1 (some .boolean) ∈ gt := gm_1 226 rfl rfl
abbrev fX2_isPrimitive (d : Nat) : xF := (yX2_isPrimitive, cX2_isPrimitive, 1, (some .boolean), false, false, d, 0, 0)
set_option maxRecDepth 100000 in
theorem cd_X2_isPrimitive : Cond.code yX2_isPrimitive cX2_isPrimitive 1 (some .boolean) ∈ gt := gm_1 195 rfl rfl
abbrev fX2_hasPlace (d : Nat) : xF := (yX2_hasPlace, cX2_hasPlace, 2, (some .boolean), false, false, d, 0, 0)
set_option maxRecDepth 100000 in
theorem cd_X2_hasPlace : Cond.code yX2_hasPlace cX2_hasPlace 2 (some .boolean) ∈ gt := gm_2 50 rfl rfl
abbrev fX2_holdsArray (d : Nat) : xF := (yX2_holdsArray, cX2_holdsArray, 2, (some .boolean), false, false, d, 0, 0)
set_option maxRecDepth 100000 in
theorem cd_X2_holdsArray : Cond.code yX2_holdsArray cX2_holdsArray 2 (some .boolean) ∈ gt := gm_3 197 rfl rfl
abbrev fX2_beEmpty (d : Nat) : xF := (yX2_beEmpty, cX2_beEmpty, 1, none, false, false, d, 0, 0)
set_option maxRecDepth 100000 in
theorem cd_X2_beEmpty : Cond.code yX2_beEmpty cX2_beEmpty 1 none ∈ gt := gm_2 1 rfl rfl
abbrev fX2_beThing (d : Nat) : xF := (yX2_beThing, cX2_beThing, 4, none, false, false, d, 0, 0)
set_option maxRecDepth 100000 in
theorem cd_X2_beThing : Cond.code yX2_beThing cX2_beThing 4 none ∈ gt := gm_1 187 rfl rfl
abbrev fX2_beArray (d : Nat) : xF := (yX2_beArray, cX2_beArray, 5, none, false, false, d, 0, 0)
set_option maxRecDepth 100000 in
theorem cd_X2_beArray : Cond.code yX2_beArray cX2_beArray 5 none ∈ gt := gm_1 191 rfl rfl
abbrev fX2_beLike (d : Nat) : xF := (yX2_beLike, cX2_beLike, 2, none, false, false, d, 0, 0)
set_option maxRecDepth 100000 in
theorem cd_X2_beLike : Cond.code yX2_beLike cX2_beLike 2 none ∈ gt := gm_2 25 rfl rfl
abbrev fX2_hold (d : Nat) : xF := (yX2_hold, cX2_hold, 5, none, false, false, d, 0, 0)
set_option maxRecDepth 100000 in
theorem cd_X2_hold : Cond.code yX2_hold cX2_hold 5 none ∈ gt := gm_2 130 rfl rfl
abbrev fX2_fill (d : Nat) : xF := (yX2_fill, cX2_fill, 5, none, false, false, d, 0, 0)
set_option maxRecDepth 100000 in
theorem cd_X2_fill : Cond.code yX2_fill cX2_fill 5 none ∈ gt := gm_1 202 rfl rfl
abbrev fX2_exchange (d : Nat) : xF := (yX2_exchange, cX2_exchange, 6, none, false, false, d, 0, 0)
set_option maxRecDepth 100000 in
theorem cd_X2_exchange : Cond.code yX2_exchange cX2_exchange 6 none ∈ gt := gm_2 165 rfl rfl
abbrev fX2_relink (d : Nat) : xF := (yX2_relink, cX2_relink, 3, none, false, false, d, 0, 0)
set_option maxRecDepth 100000 in
theorem cd_X2_relink : Cond.code yX2_relink cX2_relink 3 none ∈ gt := gm_3 189 rfl rfl
abbrev fX3_init (d : Nat) : xF := (yX3_init, cX3_init, 2, none, true, true, d, 1, 1464)
set_option maxRecDepth 100000 in
theorem cd_X3_init : Cond.code yX3_init cX3_init 2 none ∈ gt := gm_1 26 rfl rfl
abbrev fX3_has (d : Nat) : xF := (yX3_has, cX3_has, 2, (some .boolean), false, false, d, 0, 0)
set_option maxRecDepth 100000 in
theorem cd_X3_has : Cond.code yX3_has cX3_has 2 (some .boolean) ∈ gt := gm_3 76 rfl rfl
abbrev fX3_at (d : Nat) : xF := (yX3_at, cX3_at, 2, (some .int), false, false, d, 0, 0)
set_option maxRecDepth 100000 in
theorem cd_X3_at : Cond.code yX3_at cX3_at 2 (some .int) ∈ gt := gm_3 80 rfl rfl
abbrev fX3_add (d : Nat) : xF := (yX3_add, cX3_add, 2, none, false, false, d, 0, 0)
set_option maxRecDepth 100000 in
theorem cd_X3_add : Cond.code yX3_add cX3_add 2 none ∈ gt := gm_3 11 rfl rfl
abbrev fX3_replace (d : Nat) : xF := (yX3_replace, cX3_replace, 3, none, false, false, d, 0, 0)
set_option maxRecDepth 100000 in
theorem cd_X3_replace : Cond.code yX3_replace cX3_replace 3 none ∈ gt := gm_3 89 rfl rfl
abbrev fX3_append (d : Nat) : xF := (yX3_append, cX3_append, 2, (some .boolean), false, false, d, 0, 0)
set_option maxRecDepth 100000 in
theorem cd_X3_append : Cond.code yX3_append cX3_append 2 (some .boolean) ∈ gt := gm_3 67 rfl rfl
abbrev fX3_firstDifference (d : Nat) : xF := (yX3_firstDifference, cX3_firstDifference, 4, (some .int), false, false, d, 0, 0)
set_option maxRecDepth 100000 in
theorem cd_X3_firstDifference : Cond.code yX3_firstDifference cX3_firstDifference 4 (some .int) ∈ gt := gm_3 221 rfl rfl
abbrev fX4_init (d : Nat) : xF := (yX4_init, cX4_init, 3, none, true, true, d, 1, 12)
set_option maxRecDepth 100000 in
theorem cd_X4_init : Cond.code yX4_init cX4_init 3 none ∈ gt := gm_1 102 rfl rfl
abbrev fX4_write (d : Nat) : xF := (yX4_write, cX4_write, 4, none, false, false, d, 0, 0)
set_option maxRecDepth 100000 in
theorem cd_X4_write : Cond.code yX4_write cX4_write 4 none ∈ gt := gm_3 2 rfl rfl
abbrev fX4_writeArray (d : Nat) : xF := (yX4_writeArray, cX4_writeArray, 3, none, false, false, d, 0, 0)
set_option maxRecDepth 100000 in
theorem cd_X4_writeArray : Cond.code yX4_writeArray cX4_writeArray 3 none ∈ gt := gm_3 7 rfl rfl
abbrev fX4_writeObjects (d : Nat) : xF := (yX4_writeObjects, cX4_writeObjects, 3, none, false, false, d, 0, 0)
set_option maxRecDepth 100000 in
theorem cd_X4_writeObjects : Cond.code yX4_writeObjects cX4_writeObjects 3 none ∈ gt := gm_3 50 rfl rfl
abbrev fX4_writeTagged (d : Nat) : xF := (yX4_writeTagged, cX4_writeTagged, 4, none, false, false, d, 0, 0)
set_option maxRecDepth 100000 in
theorem cd_X4_writeTagged : Cond.code yX4_writeTagged cX4_writeTagged 4 none ∈ gt := gm_3 54 rfl rfl
abbrev fX4_writeLetters (d : Nat) : xF := (yX4_writeLetters, cX4_writeLetters, 6, none, false, false, d, 0, 0)
set_option maxRecDepth 100000 in
theorem cd_X4_writeLetters : Cond.code yX4_writeLetters cX4_writeLetters 6 none ∈ gt := gm_3 58 rfl rfl
abbrev fX4_letterOf (d : Nat) : xF := (yX4_letterOf, cX4_letterOf, 6, (some .int), false, false, d, 0, 0)
set_option maxRecDepth 100000 in
theorem cd_X4_letterOf : Cond.code yX4_letterOf cX4_letterOf 6 (some .int) ∈ gt := gm_3 62 rfl rfl
abbrev fX4_writeHead (d : Nat) : xF := (yX4_writeHead, cX4_writeHead, 3, none, false, false, d, 0, 0)
set_option maxRecDepth 100000 in
theorem cd_X4_writeHead : Cond.code yX4_writeHead cX4_writeHead 3 none ∈ gt := gm_3 20 rfl rfl
abbrev fX4_writePrimitive (d : Nat) : xF := (yX4_writePrimitive, cX4_writePrimitive, 4, none, false, false, d, 0, 0)
set_option maxRecDepth 100000 in
theorem cd_X4_writePrimitive : Cond.code yX4_writePrimitive cX4_writePrimitive 4 none ∈ gt := gm_3 16 rfl rfl
abbrev fX4_writeFlat (d : Nat) : xF := (yX4_writeFlat, cX4_writeFlat, 3, none, false, false, d, 0, 0)
set_option maxRecDepth 100000 in
theorem cd_X4_writeFlat : Cond.code yX4_writeFlat cX4_writeFlat 3 none ∈ gt := gm_3 46 rfl rfl
abbrev fX4_writeRuns (d : Nat) : xF := (yX4_writeRuns, cX4_writeRuns, 4, none, false, false, d, 0, 0)
set_option maxRecDepth 100000 in
theorem cd_X4_writeRuns : Cond.code yX4_writeRuns cX4_writeRuns 4 none ∈ gt := gm_3 24 rfl rfl
abbrev fX4_writeSteps (d : Nat) : xF := (yX4_writeSteps, cX4_writeSteps, 5, none, false, false, d, 0, 0)
set_option maxRecDepth 100000 in
theorem cd_X4_writeSteps : Cond.code yX4_writeSteps cX4_writeSteps 5 none ∈ gt := gm_3 36 rfl rfl
abbrev fX4_writeStep (d : Nat) : xF := (yX4_writeStep, cX4_writeStep, 6, none, false, false, d, 0, 0)
set_option maxRecDepth 100000 in
theorem cd_X4_writeStep : Cond.code yX4_writeStep cX4_writeStep 6 none ∈ gt := gm_3 40 rfl rfl
abbrev fX4_writeNumber (d : Nat) : xF := (yX4_writeNumber, cX4_writeNumber, 8, none, false, false, d, 0, 0)
set_option maxRecDepth 100000 in
theorem cd_X4_writeNumber : Cond.code yX4_writeNumber cX4_writeNumber 8 none ∈ gt := gm_3 28 rfl rfl
abbrev fX5_init (d : Nat) : xF := (yX5_init, cX5_init, 2, none, true, true, d, 100, 6000)
set_option maxRecDepth 100000 in
theorem cd_X5_init : Cond.code yX5_init cX5_init 2 none ∈ gt := gm_1 16 rfl rfl
abbrev fX5_make (d : Nat) : xF := (yX5_make, cX5_make, 5, (some .int), false, false, d, 0, 0)
set_option maxRecDepth 100000 in
theorem cd_X5_make : Cond.code yX5_make cX5_make 5 (some .int) ∈ gt := gm_1 167 rfl rfl
abbrev fX5_kind (d : Nat) : xF := (yX5_kind, cX5_kind, 3, (some .int), false, false, d, 0, 0)
set_option maxRecDepth 100000 in
theorem cd_X5_kind : Cond.code yX5_kind cX5_kind 3 (some .int) ∈ gt := gm_1 206 rfl rfl
abbrev fX5_size (d : Nat) : xF := (yX5_size, cX5_size, 3, (some .int), false, false, d, 0, 0)
set_option maxRecDepth 100000 in
theorem cd_X5_size : Cond.code yX5_size cX5_size 3 (some .int) ∈ gt := gm_1 218 rfl rfl
abbrev fX5_drop (d : Nat) : xF := (yX5_drop, cX5_drop, 4, (some .int), false, false, d, 0, 0)
set_option maxRecDepth 100000 in
theorem cd_X5_drop : Cond.code yX5_drop cX5_drop 4 (some .int) ∈ gt := gm_1 230 rfl rfl
abbrev fX5_gather (d : Nat) : xF := (yX5_gather, cX5_gather, 6, (some .int), false, false, d, 0, 0)
set_option maxRecDepth 100000 in
theorem cd_X5_gather : Cond.code yX5_gather cX5_gather 6 (some .int) ∈ gt := gm_2 9 rfl rfl
abbrev fX5_copyOf (d : Nat) : xF := (yX5_copyOf, cX5_copyOf, 4, (some .int), false, false, d, 0, 0)
set_option maxRecDepth 100000 in
theorem cd_X5_copyOf : Cond.code yX5_copyOf cX5_copyOf 4 (some .int) ∈ gt := gm_2 21 rfl rfl
abbrev fX5_get (d : Nat) : xF := (yX5_get, cX5_get, 5, (some .long), false, false, d, 0, 0)
set_option maxRecDepth 100000 in
theorem cd_X5_get : Cond.code yX5_get cX5_get 5 (some .long) ∈ gt := gm_2 32 rfl rfl
abbrev fX5_set (d : Nat) : xF := (yX5_set, cX5_set, 7, (some .int), false, false, d, 0, 0)
set_option maxRecDepth 100000 in
theorem cd_X5_set : Cond.code yX5_set cX5_set 7 (some .int) ∈ gt := gm_2 111 rfl rfl
abbrev fX5_usable (d : Nat) : xF := (yX5_usable, cX5_usable, 9, (some .int), false, false, d, 0, 0)
set_option maxRecDepth 100000 in
theorem cd_X5_usable : Cond.code yX5_usable cX5_usable 9 (some .int) ∈ gt := gm_2 135 rfl rfl
abbrev fX5_look (d : Nat) : xF := (yX5_look, cX5_look, 5, (some .long), false, false, d, 0, 0)
set_option maxRecDepth 100000 in
theorem cd_X5_look : Cond.code yX5_look cX5_look 5 (some .long) ∈ gt := gm_2 139 rfl rfl
abbrev fX5_put (d : Nat) : xF := (yX5_put, cX5_put, 7, (some .int), false, false, d, 0, 0)
set_option maxRecDepth 100000 in
theorem cd_X5_put : Cond.code yX5_put cX5_put 7 (some .int) ∈ gt := gm_2 143 rfl rfl
abbrev fX5_swap (d : Nat) : xF := (yX5_swap, cX5_swap, 5, (some .int), false, false, d, 0, 0)
set_option maxRecDepth 100000 in
theorem cd_X5_swap : Cond.code yX5_swap cX5_swap 5 (some .int) ∈ gt := gm_2 161 rfl rfl
abbrev fX5_went (d : Nat) : xF := (yX5_went, cX5_went, 2, (some .int), false, false, d, 0, 0)
set_option maxRecDepth 100000 in
theorem cd_X5_went : Cond.code yX5_went cX5_went 2 (some .int) ∈ gt := gm_2 169 rfl rfl
abbrev fX5_carry (d : Nat) : xF := (yX5_carry, cX5_carry, 8, (some .int), false, false, d, 0, 0)
set_option maxRecDepth 100000 in
theorem cd_X5_carry : Cond.code yX5_carry cX5_carry 8 (some .int) ∈ gt := gm_2 173 rfl rfl
abbrev fX5_convert (d : Nat) : xF := (yX5_convert, cX5_convert, 4, (some .int), false, false, d, 0, 0)
set_option maxRecDepth 100000 in
theorem cd_X5_convert : Cond.code yX5_convert cX5_convert 4 (some .int) ∈ gt := gm_2 191 rfl rfl
abbrev fX5_shape (d : Nat) : xF := (yX5_shape, cX5_shape, 10, (some .int), false, false, d, 0, 0)
set_option maxRecDepth 100000 in
theorem cd_X5_shape : Cond.code yX5_shape cX5_shape 10 (some .int) ∈ gt := gm_2 199 rfl rfl
abbrev fX5_sum (d : Nat) : xF := (yX5_sum, cX5_sum, 5, (some .long), false, false, d, 0, 0)
set_option maxRecDepth 100000 in
theorem cd_X5_sum : Cond.code yX5_sum cX5_sum 5 (some .long) ∈ gt := gm_2 216 rfl rfl
abbrev fX5_mode (d : Nat) : xF := (yX5_mode, cX5_mode, 3, (some .int), false, false, d, 0, 0)
set_option maxRecDepth 100000 in
theorem cd_X5_mode : Cond.code yX5_mode cX5_mode 3 (some .int) ∈ gt := gm_2 231 rfl rfl
abbrev fX5_lay (d : Nat) : xF := (yX5_lay, cX5_lay, 3, (some .int), false, false, d, 0, 0)
set_option maxRecDepth 100000 in
theorem cd_X5_lay : Cond.code yX5_lay cX5_lay 3 (some .int) ∈ gt := gm_2 238 rfl rfl
abbrev fX5_tape (d : Nat) : xF := (yX5_tape, cX5_tape, 2, (some .int), false, false, d, 0, 0)
set_option maxRecDepth 100000 in
theorem cd_X5_tape : Cond.code yX5_tape cX5_tape 2 (some .int) ∈ gt := gm_3 72 rfl rfl
abbrev fX5_poke (d : Nat) : xF := (yX5_poke, cX5_poke, 4, (some .int), false, false, d, 0, 0)
set_option maxRecDepth 100000 in
theorem cd_X5_poke : Cond.code yX5_poke cX5_poke 4 (some .int) ∈ gt := gm_3 84 rfl rfl
abbrev fX5_cut (d : Nat) : xF := (yX5_cut, cX5_cut, 3, (some .int), false, false, d, 0, 0)
set_option maxRecDepth 100000 in
theorem cd_X5_cut : Cond.code yX5_cut cX5_cut 3 (some .int) ∈ gt := gm_3 94 rfl rfl
abbrev fX5_seek (d : Nat) : xF := (yX5_seek, cX5_seek, 3, (some .int), false, false, d, 0, 0)
set_option maxRecDepth 100000 in
theorem cd_X5_seek : Cond.code yX5_seek cX5_seek 3 (some .int) ∈ gt := gm_3 98 rfl rfl
abbrev fX5_read (d : Nat) : xF := (yX5_read, cX5_read, 3, (some .int), false, false, d, 0, 0)
set_option maxRecDepth 100000 in
theorem cd_X5_read : Cond.code yX5_read cX5_read 3 (some .int) ∈ gt := gm_3 102 rfl rfl
abbrev fX5_readAs (d : Nat) : xF := (yX5_readAs, cX5_readAs, 4, (some .int), false, false, d, 0, 0)
set_option maxRecDepth 100000 in
theorem cd_X5_readAs : Cond.code yX5_readAs cX5_readAs 4 (some .int) ∈ gt := gm_3 193 rfl rfl
abbrev fX5_skip (d : Nat) : xF := (yX5_skip, cX5_skip, 2, (some .int), false, false, d, 0, 0)
set_option maxRecDepth 100000 in
theorem cd_X5_skip : Cond.code yX5_skip cX5_skip 2 (some .int) ∈ gt := gm_3 201 rfl rfl
abbrev fX5_relay (d : Nat) : xF := (yX5_relay, cX5_relay, 2, (some .int), false, false, d, 0, 0)
set_option maxRecDepth 100000 in
theorem cd_X5_relay : Cond.code yX5_relay cX5_relay 2 (some .int) ∈ gt := gm_3 205 rfl rfl
abbrev fX5_slack (d : Nat) : xF := (yX5_slack, cX5_slack, 6, (some .int), false, false, d, 0, 0)
set_option maxRecDepth 100000 in
theorem cd_X5_slack : Cond.code yX5_slack cX5_slack 6 (some .int) ∈ gt := gm_3 209 rfl rfl
abbrev fX5_find (d : Nat) : xF := (yX5_find, cX5_find, 4, (some .int), false, false, d, 0, 0)
set_option maxRecDepth 100000 in
theorem cd_X5_find : Cond.code yX5_find cX5_find 4 (some .int) ∈ gt := gm_3 217 rfl rfl
abbrev fX5_laid (d : Nat) : xF := (yX5_laid, cX5_laid, 4, (some .int), false, false, d, 0, 0)
set_option maxRecDepth 100000 in
theorem cd_X5_laid : Cond.code yX5_laid cX5_laid 4 (some .int) ∈ gt := gm_3 226 rfl rfl
abbrev fX5_part (d : Nat) : xF := (yX5_part, cX5_part, 4, (some .int), false, false, d, 0, 0)
set_option maxRecDepth 100000 in
theorem cd_X5_part : Cond.code yX5_part cX5_part 4 (some .int) ∈ gt := gm_3 230 rfl rfl
abbrev fX5_hangs (d : Nat) : xF := (yX5_hangs, cX5_hangs, 3, (some .int), false, false, d, 0, 0)
set_option maxRecDepth 100000 in
theorem cd_X5_hangs : Cond.code yX5_hangs cX5_hangs 3 (some .int) ∈ gt := gm_3 238 rfl rfl
abbrev fX5_far (d : Nat) : xF := (yX5_far, cX5_far, 6, (some .int), false, false, d, 0, 0)
set_option maxRecDepth 100000 in
theorem cd_X5_far : Cond.code yX5_far cX5_far 6 (some .int) ∈ gt := gm_4 2 rfl rfl
abbrev fX5_twin (d : Nat) : xF := (yX5_twin, cX5_twin, 3, (some .int), false, false, d, 0, 0)
set_option maxRecDepth 100000 in
theorem cd_X5_twin : Cond.code yX5_twin cX5_twin 3 (some .int) ∈ gt := gm_4 6 rfl rfl
abbrev fX5_called (d : Nat) : xF := (yX5_called, cX5_called, 2, (some .long), false, false, d, 0, 0)
set_option maxRecDepth 100000 in
theorem cd_X5_called : Cond.code yX5_called cX5_called 2 (some .long) ∈ gt := gm_4 10 rfl rfl
abbrev fX5_named (d : Nat) : xF := (yX5_named, cX5_named, 3, (some .int), false, false, d, 0, 0)
set_option maxRecDepth 100000 in
theorem cd_X5_named : Cond.code yX5_named cX5_named 3 (some .int) ∈ gt := gm_4 14 rfl rfl
abbrev fX5_count (d : Nat) : xF := (yX5_count, cX5_count, 2, (some .int), false, false, d, 0, 0)
set_option maxRecDepth 100000 in
theorem cd_X5_count : Cond.code yX5_count cX5_count 2 (some .int) ∈ gt := gm_4 18 rfl rfl
abbrev fX5_slotError (d : Nat) : xF := (yX5_slotError, cX5_slotError, 2, (some .int), false, false, d, 0, 0)
set_option maxRecDepth 100000 in
theorem cd_X5_slotError : Cond.code yX5_slotError cX5_slotError 2 (some .int) ∈ gt := gm_1 210 rfl rfl
abbrev fX5_arrayError (d : Nat) : xF := (yX5_arrayError, cX5_arrayError, 3, (some .int), false, false, d, 0, 0)
set_option maxRecDepth 100000 in
theorem cd_X5_arrayError : Cond.code yX5_arrayError cX5_arrayError 3 (some .int) ∈ gt := gm_1 222 rfl rfl
abbrev fX5_primitiveError (d : Nat) : xF := (yX5_primitiveError, cX5_primitiveError, 3, (some .int), false, false, d, 0, 0)
set_option maxRecDepth 100000 in
theorem cd_X5_primitiveError : Cond.code yX5_primitiveError cX5_primitiveError 3 (some .int) ∈ gt := gm_2 41 rfl rfl
abbrev fX5_placeError (d : Nat) : xF := (yX5_placeError, cX5_placeError, 4, (some .int), false, false, d, 0, 0)
set_option maxRecDepth 100000 in
theorem cd_X5_placeError : Cond.code yX5_placeError cX5_placeError 4 (some .int) ∈ gt := gm_2 46 rfl rfl
abbrev fX5_slotPairError (d : Nat) : xF := (yX5_slotPairError, cX5_slotPairError, 3, (some .int), false, false, d, 0, 0)
set_option maxRecDepth 100000 in
theorem cd_X5_slotPairError : Cond.code yX5_slotPairError cX5_slotPairError 3 (some .int) ∈ gt := gm_3 234 rfl rfl
abbrev fX5_arrayPairError (d : Nat) : xF := (yX5_arrayPairError, cX5_arrayPairError, 3, (some .int), false, false, d, 0, 0)
set_option maxRecDepth 100000 in
theorem cd_X5_arrayPairError : Cond.code yX5_arrayPairError cX5_arrayPairError 3 (some .int) ∈ gt := gm_2 177 rfl rfl
abbrev fX5_firstError (d : Nat) : xF := (yX5_firstError, cX5_firstError, 2, (some .int), false, false, d, 0, 0)
set_option maxRecDepth 100000 in
theorem cd_X5_firstError : Cond.code yX5_firstError cX5_firstError 2 (some .int) ∈ gt := gm_2 180 rfl rfl
abbrev fX5_getError (d : Nat) : xF := (yX5_getError, cX5_getError, 5, (some .int), false, false, d, 0, 0)
set_option maxRecDepth 100000 in
theorem cd_X5_getError : Cond.code yX5_getError cX5_getError 5 (some .int) ∈ gt := gm_2 36 rfl rfl
abbrev fX5_setError (d : Nat) : xF := (yX5_setError, cX5_setError, 7, (some .int), false, false, d, 0, 0)
set_option maxRecDepth 100000 in
theorem cd_X5_setError : Cond.code yX5_setError cX5_setError 7 (some .int) ∈ gt := gm_2 115 rfl rfl
abbrev fX5_putError (d : Nat) : xF := (yX5_putError, cX5_putError, 7, (some .int), false, false, d, 0, 0)
set_option maxRecDepth 100000 in
theorem cd_X5_putError : Cond.code yX5_putError cX5_putError 7 (some .int) ∈ gt := gm_2 147 rfl rfl
abbrev fX5_carryError (d : Nat) : xF := (yX5_carryError, cX5_carryError, 5, (some .int), false, false, d, 0, 0)
set_option maxRecDepth 100000 in
theorem cd_X5_carryError : Cond.code yX5_carryError cX5_carryError 5 (some .int) ∈ gt := gm_2 187 rfl rfl
abbrev fX5_shapeError (d : Nat) : xF := (yX5_shapeError, cX5_shapeError, 4, (some .int), false, false, d, 0, 0)
set_option maxRecDepth 100000 in
theorem cd_X5_shapeError : Cond.code yX5_shapeError cX5_shapeError 4 (some .int) ∈ gt := gm_2 203 rfl rfl
abbrev fX5_report (d : Nat) : xF := (yX5_report, cX5_report, 3, (some .int), false, false, d, 0, 0)
set_option maxRecDepth 100000 in
theorem cd_X5_report : Cond.code yX5_report cX5_report 3 (some .int) ∈ gt := gm_2 64 rfl rfl
abbrev fX5_tally (d : Nat) : xF := (yX5_tally, cX5_tally, 2, none, false, false, d, 0, 0)
set_option maxRecDepth 100000 in
theorem cd_X5_tally : Cond.code yX5_tally cX5_tally 2 none ∈ gt := gm_2 60 rfl rfl
abbrev fX5_lowestEmpty (d : Nat) : xF := (yX5_lowestEmpty, cX5_lowestEmpty, 2, (some .int), false, false, d, 0, 0)
set_option maxRecDepth 100000 in
theorem cd_X5_lowestEmpty : Cond.code yX5_lowestEmpty cX5_lowestEmpty 2 (some .int) ∈ gt := gm_1 179 rfl rfl
abbrev fX5_filledSlots (d : Nat) : xF := (yX5_filledSlots, cX5_filledSlots, 3, (some .int), false, false, d, 0, 0)
set_option maxRecDepth 100000 in
theorem cd_X5_filledSlots : Cond.code yX5_filledSlots cX5_filledSlots 3 (some .int) ∈ gt := gm_2 5 rfl rfl
abbrev fX5_isContents (d : Nat) : xF := (yX5_isContents, cX5_isContents, 3, (some .boolean), false, false, d, 0, 0)
set_option maxRecDepth 100000 in
theorem cd_X5_isContents : Cond.code yX5_isContents cX5_isContents 3 (some .boolean) ∈ gt := gm_1 170 rfl rfl
abbrev fX5_isSlot (d : Nat) : xF := (yX5_isSlot, cX5_isSlot, 2, (some .boolean), false, false, d, 0, 0)
set_option maxRecDepth 100000 in
theorem cd_X5_isSlot : Cond.code yX5_isSlot cX5_isSlot 2 (some .boolean) ∈ gt := gm_1 213 rfl rfl
abbrev fX5_isMode (d : Nat) : xF := (yX5_isMode, cX5_isMode, 1, (some .boolean), false, false, d, 0, 0)
set_option maxRecDepth 100000 in
theorem cd_X5_isMode : Cond.code yX5_isMode cX5_isMode 1 (some .boolean) ∈ gt := gm_2 234 rfl rfl
abbrev fX5_isWord (d : Nat) : xF := (yX5_isWord, cX5_isWord, 5, (some .boolean), false, false, d, 0, 0)
set_option maxRecDepth 100000 in
theorem cd_X5_isWord : Cond.code yX5_isWord cX5_isWord 5 (some .boolean) ∈ gt := gm_1 173 rfl rfl
abbrev fX5_kindNamed (d : Nat) : xF := (yX5_kindNamed, cX5_kindNamed, 3, (some .int), false, false, d, 0, 0)
set_option maxRecDepth 100000 in
theorem cd_X5_kindNamed : Cond.code yX5_kindNamed cX5_kindNamed 3 (some .int) ∈ gt := gm_2 210 rfl rfl
abbrev fX5_kindInSchema (d : Nat) : xF := (yX5_kindInSchema, cX5_kindInSchema, 2, (some .int), false, false, d, 0, 0)
set_option maxRecDepth 100000 in
theorem cd_X5_kindInSchema : Cond.code yX5_kindInSchema cX5_kindInSchema 2 (some .int) ∈ gt := gm_2 207 rfl rfl
abbrev fX5_isValue (d : Nat) : xF := (yX5_isValue, cX5_isValue, 4, (some .boolean), false, false, d, 0, 0)
set_option maxRecDepth 100000 in
theorem cd_X5_isValue : Cond.code yX5_isValue cX5_isValue 4 (some .boolean) ∈ gt := gm_2 151 rfl rfl
abbrev fX5_accepts (d : Nat) : xF := (yX5_accepts, cX5_accepts, 5, (some .boolean), false, false, d, 0, 0)
set_option maxRecDepth 100000 in
theorem cd_X5_accepts : Cond.code yX5_accepts cX5_accepts 5 (some .boolean) ∈ gt := gm_2 156 rfl rfl
abbrev fX5_keepConverted (d : Nat) : xF := (yX5_keepConverted, cX5_keepConverted, 5, (some .int), false, false, d, 0, 0)
set_option maxRecDepth 100000 in
theorem cd_X5_keepConverted : Cond.code yX5_keepConverted cX5_keepConverted 5 (some .int) ∈ gt := gm_2 195 rfl rfl
abbrev fX5_settle (d : Nat) : xF := (yX5_settle, cX5_settle, 3, (some .int), false, false, d, 0, 0)
set_option maxRecDepth 100000 in
theorem cd_X5_settle : Cond.code yX5_settle cX5_settle 3 (some .int) ∈ gt := gm_3 185 rfl rfl
abbrev fX5_wholeSum (d : Nat) : xF := (yX5_wholeSum, cX5_wholeSum, 5, (some .long), false, false, d, 0, 0)
set_option maxRecDepth 100000 in
theorem cd_X5_wholeSum : Cond.code yX5_wholeSum cX5_wholeSum 5 (some .long) ∈ gt := gm_2 219 rfl rfl
abbrev fX5_floatSum (d : Nat) : xF := (yX5_floatSum, cX5_floatSum, 3, (some .long), false, false, d, 0, 0)
set_option maxRecDepth 100000 in
theorem cd_X5_floatSum : Cond.code yX5_floatSum cX5_floatSum 3 (some .long) ∈ gt := gm_2 222 rfl rfl
abbrev fX5_doubleSum (d : Nat) : xF := (yX5_doubleSum, cX5_doubleSum, 4, (some .long), false, false, d, 0, 0)
set_option maxRecDepth 100000 in
theorem cd_X5_doubleSum : Cond.code yX5_doubleSum cX5_doubleSum 4 (some .long) ∈ gt := gm_2 227 rfl rfl
abbrev fX5_has (d : Nat) : xF := (yX5_has, cX5_has, 2, (some .boolean), false, false, d, 0, 0)
set_option maxRecDepth 100000 in
theorem cd_X5_has : Cond.code yX5_has cX5_has 2 (some .boolean) ∈ gt := gm_1 237 rfl rfl
abbrev fX5_linksOf (d : Nat) : xF := (yX5_linksOf, cX5_linksOf, 5, (some .int), false, false, d, 0, 0)
set_option maxRecDepth 100000 in
theorem cd_X5_linksOf : Cond.code yX5_linksOf cX5_linksOf 5 (some .int) ∈ gt := gm_1 234 rfl rfl
abbrev fX5_linksOfAll (d : Nat) : xF := (yX5_linksOfAll, cX5_linksOfAll, 4, (some .int), false, false, d, 0, 0)
set_option maxRecDepth 100000 in
theorem cd_X5_linksOfAll : Cond.code yX5_linksOfAll cX5_linksOfAll 4 (some .int) ∈ gt := gm_2 17 rfl rfl
abbrev fX5_hangingOn (d : Nat) : xF := (yX5_hangingOn, cX5_hangingOn, 4, (some .int), false, false, d, 0, 0)
set_option maxRecDepth 100000 in
theorem cd_X5_hangingOn : Cond.code yX5_hangingOn cX5_hangingOn 4 (some .int) ∈ gt := gm_2 13 rfl rfl
abbrev fX6_init (d : Nat) : xF := (yX6_init, cX6_init, 4, none, true, true, d, 20, 5000)
set_option maxRecDepth 100000 in
theorem cd_X6_init : Cond.code yX6_init cX6_init 4 none ∈ gt := gm_4 23 rfl rfl
abbrev fX6_isIn (d : Nat) : xF := (yX6_isIn, cX6_isIn, 6, (some .boolean), false, false, d, 0, 0)
set_option maxRecDepth 100000 in
theorem cd_X6_isIn : Cond.code yX6_isIn cX6_isIn 6 (some .boolean) ∈ gt := gm_4 134 rfl rfl
abbrev fX6_isNumber (d : Nat) : xF := (yX6_isNumber, cX6_isNumber, 3, (some .boolean), false, false, d, 0, 0)
set_option maxRecDepth 100000 in
theorem cd_X6_isNumber : Cond.code yX6_isNumber cX6_isNumber 3 (some .boolean) ∈ gt := gm_5 11 rfl rfl
abbrev fX6_bitsOf (d : Nat) : xF := (yX6_bitsOf, cX6_bitsOf, 9, (some .long), false, false, d, 0, 0)
set_option maxRecDepth 100000 in
theorem cd_X6_bitsOf : Cond.code yX6_bitsOf cX6_bitsOf 9 (some .long) ∈ gt := gm_4 239 rfl rfl
abbrev fX6_floatBits (d : Nat) : xF := (yX6_floatBits, cX6_floatBits, 4, (some .long), false, false, d, 0, 0)
set_option maxRecDepth 100000 in
theorem cd_X6_floatBits : Cond.code yX6_floatBits cX6_floatBits 4 (some .long) ∈ gt := gm_5 3 rfl rfl
abbrev fX6_doubleBits (d : Nat) : xF := (yX6_doubleBits, cX6_doubleBits, 4, (some .long), false, false, d, 0, 0)
set_option maxRecDepth 100000 in
theorem cd_X6_doubleBits : Cond.code yX6_doubleBits cX6_doubleBits 4 (some .long) ∈ gt := gm_4 236 rfl rfl
abbrev fX6_valueOf (d : Nat) : xF := (yX6_valueOf, cX6_valueOf, 10, (some .double), false, false, d, 0, 0)
set_option maxRecDepth 100000 in
theorem cd_X6_valueOf : Cond.code yX6_valueOf cX6_valueOf 10 (some .double) ∈ gt := gm_4 232 rfl rfl
abbrev fX6_value (d : Nat) : xF := (yX6_value, cX6_value, 3, (some .double), false, false, d, 0, 0)
set_option maxRecDepth 100000 in
theorem cd_X6_value : Cond.code yX6_value cX6_value 3 (some .double) ∈ gt := gm_4 229 rfl rfl
abbrev fX6_given (d : Nat) : xF := (yX6_given, cX6_given, 3, (some .long), false, false, d, 0, 0)
set_option maxRecDepth 100000 in
theorem cd_X6_given : Cond.code yX6_given cX6_given 3 (some .long) ∈ gt := gm_5 21 rfl rfl
abbrev fX6_turns (d : Nat) : xF := (yX6_turns, cX6_turns, 2, (some .boolean), false, false, d, 0, 0)
set_option maxRecDepth 100000 in
theorem cd_X6_turns : Cond.code yX6_turns cX6_turns 2 (some .boolean) ∈ gt := gm_4 219 rfl rfl
abbrev fX6_turned (d : Nat) : xF := (yX6_turned, cX6_turned, 4, (some .long), false, false, d, 0, 0)
set_option maxRecDepth 100000 in
theorem cd_X6_turned : Cond.code yX6_turned cX6_turned 4 (some .long) ∈ gt := gm_4 226 rfl rfl
abbrev fX6_isWord (d : Nat) : xF := (yX6_isWord, cX6_isWord, 5, (some .boolean), false, false, d, 0, 0)
set_option maxRecDepth 100000 in
theorem cd_X6_isWord : Cond.code yX6_isWord cX6_isWord 5 (some .boolean) ∈ gt := gm_4 139 rfl rfl
abbrev fX6_isThing (d : Nat) : xF := (yX6_isThing, cX6_isThing, 2, (some .boolean), false, false, d, 0, 0)
set_option maxRecDepth 100000 in
theorem cd_X6_isThing : Cond.code yX6_isThing cX6_isThing 2 (some .boolean) ∈ gt := gm_4 154 rfl rfl
abbrev fX6_refusal (d : Nat) : xF := (yX6_refusal, cX6_refusal, 2, (some .int), false, false, d, 0, 0)
set_option maxRecDepth 100000 in
theorem cd_X6_refusal : Cond.code yX6_refusal cX6_refusal 2 (some .int) ∈ gt := gm_4 163 rfl rfl
abbrev fX6_refusalOfTwo (d : Nat) : xF := (yX6_refusalOfTwo, cX6_refusalOfTwo, 3, (some .int), false, false, d, 0, 0)
set_option maxRecDepth 100000 in
theorem cd_X6_refusalOfTwo : Cond.code yX6_refusalOfTwo cX6_refusalOfTwo 3 (some .int) ∈ gt := gm_5 60 rfl rfl
abbrev fX6_isPlain (d : Nat) : xF := (yX6_isPlain, cX6_isPlain, 2, (some .boolean), false, false, d, 0, 0)
set_option maxRecDepth 100000 in
theorem cd_X6_isPlain : Cond.code yX6_isPlain cX6_isPlain 2 (some .boolean) ∈ gt := gm_4 212 rfl rfl
abbrev fX6_free (d : Nat) : xF := (yX6_free, cX6_free, 2, (some .int), false, false, d, 0, 0)
set_option maxRecDepth 100000 in
theorem cd_X6_free : Cond.code yX6_free cX6_free 2 (some .int) ∈ gt := gm_4 143 rfl rfl
abbrev fX6_things (d : Nat) : xF := (yX6_things, cX6_things, 3, (some .int), false, false, d, 0, 0)
set_option maxRecDepth 100000 in
theorem cd_X6_things : Cond.code yX6_things cX6_things 3 (some .int) ∈ gt := gm_4 179 rfl rfl
abbrev fX6_begins (d : Nat) : xF := (yX6_begins, cX6_begins, 5, none, false, false, d, 0, 0)
set_option maxRecDepth 100000 in
theorem cd_X6_begins : Cond.code yX6_begins cX6_begins 5 none ∈ gt := gm_4 147 rfl rfl
abbrev fX6_takes (d : Nat) : xF := (yX6_takes, cX6_takes, 5, (some .boolean), false, false, d, 0, 0)
set_option maxRecDepth 100000 in
theorem cd_X6_takes : Cond.code yX6_takes cX6_takes 5 (some .boolean) ∈ gt := gm_5 43 rfl rfl
abbrev fX6_tells (d : Nat) : xF := (yX6_tells, cX6_tells, 3, (some .int), false, false, d, 0, 0)
set_option maxRecDepth 100000 in
theorem cd_X6_tells : Cond.code yX6_tells cX6_tells 3 (some .int) ∈ gt := gm_4 204 rfl rfl
abbrev fX6_counts (d : Nat) : xF := (yX6_counts, cX6_counts, 2, (some .int), false, false, d, 0, 0)
set_option maxRecDepth 100000 in
theorem cd_X6_counts : Cond.code yX6_counts cX6_counts 2 (some .int) ∈ gt := gm_4 223 rfl rfl
abbrev fX6_make (d : Nat) : xF := (yX6_make, cX6_make, 6, (some .int), false, false, d, 0, 0)
set_option maxRecDepth 100000 in
theorem cd_X6_make : Cond.code yX6_make cX6_make 6 (some .int) ∈ gt := gm_4 130 rfl rfl
abbrev fX6_kind (d : Nat) : xF := (yX6_kind, cX6_kind, 2, (some .int), false, false, d, 0, 0)
set_option maxRecDepth 100000 in
theorem cd_X6_kind : Cond.code yX6_kind cX6_kind 2 (some .int) ∈ gt := gm_4 151 rfl rfl
abbrev fX6_size (d : Nat) : xF := (yX6_size, cX6_size, 3, (some .int), false, false, d, 0, 0)
set_option maxRecDepth 100000 in
theorem cd_X6_size : Cond.code yX6_size cX6_size 3 (some .int) ∈ gt := gm_4 159 rfl rfl
abbrev fX6_stands (d : Nat) : xF := (yX6_stands, cX6_stands, 4, (some .boolean), false, false, d, 0, 0)
set_option maxRecDepth 100000 in
theorem cd_X6_stands : Cond.code yX6_stands cX6_stands 4 (some .boolean) ∈ gt := gm_4 175 rfl rfl
abbrev fX6_isRow (d : Nat) : xF := (yX6_isRow, cX6_isRow, 2, (some .boolean), false, false, d, 0, 0)
set_option maxRecDepth 100000 in
theorem cd_X6_isRow : Cond.code yX6_isRow cX6_isRow 2 (some .boolean) ∈ gt := gm_4 171 rfl rfl
abbrev fX6_drop (d : Nat) : xF := (yX6_drop, cX6_drop, 3, (some .int), false, false, d, 0, 0)
set_option maxRecDepth 100000 in
theorem cd_X6_drop : Cond.code yX6_drop cX6_drop 3 (some .int) ∈ gt := gm_4 167 rfl rfl
abbrev fX6_hanging (d : Nat) : xF := (yX6_hanging, cX6_hanging, 6, (some .int), false, false, d, 0, 0)
set_option maxRecDepth 100000 in
theorem cd_X6_hanging : Cond.code yX6_hanging cX6_hanging 6 (some .int) ∈ gt := gm_4 187 rfl rfl
abbrev fX6_gather (d : Nat) : xF := (yX6_gather, cX6_gather, 5, (some .int), false, false, d, 0, 0)
set_option maxRecDepth 100000 in
theorem cd_X6_gather : Cond.code yX6_gather cX6_gather 5 (some .int) ∈ gt := gm_4 183 rfl rfl
abbrev fX6_copies (d : Nat) : xF := (yX6_copies, cX6_copies, 4, none, false, false, d, 0, 0)
set_option maxRecDepth 100000 in
theorem cd_X6_copies : Cond.code yX6_copies cX6_copies 4 none ∈ gt := gm_4 195 rfl rfl
abbrev fX6_copyOf (d : Nat) : xF := (yX6_copyOf, cX6_copyOf, 4, (some .int), false, false, d, 0, 0)
set_option maxRecDepth 100000 in
theorem cd_X6_copyOf : Cond.code yX6_copyOf cX6_copyOf 4 (some .int) ∈ gt := gm_4 191 rfl rfl
abbrev fX6_isPlace (d : Nat) : xF := (yX6_isPlace, cX6_isPlace, 4, (some .boolean), false, false, d, 0, 0)
set_option maxRecDepth 100000 in
theorem cd_X6_isPlace : Cond.code yX6_isPlace cX6_isPlace 4 (some .boolean) ∈ gt := gm_4 216 rfl rfl
abbrev fX6_refusalOfGet (d : Nat) : xF := (yX6_refusalOfGet, cX6_refusalOfGet, 5, (some .int), false, false, d, 0, 0)
set_option maxRecDepth 100000 in
theorem cd_X6_refusalOfGet : Cond.code yX6_refusalOfGet cX6_refusalOfGet 5 (some .int) ∈ gt := gm_4 208 rfl rfl
abbrev fX6_get (d : Nat) : xF := (yX6_get, cX6_get, 5, (some .long), false, false, d, 0, 0)
set_option maxRecDepth 100000 in
theorem cd_X6_get : Cond.code yX6_get cX6_get 5 (some .long) ∈ gt := gm_4 199 rfl rfl
abbrev fX6_set (d : Nat) : xF := (yX6_set, cX6_set, 7, (some .int), false, false, d, 0, 0)
set_option maxRecDepth 100000 in
theorem cd_X6_set : Cond.code yX6_set cX6_set 7 (some .int) ∈ gt := gm_5 8 rfl rfl
abbrev fX6_usable (d : Nat) : xF := (yX6_usable, cX6_usable, 7, (some .int), false, false, d, 0, 0)
set_option maxRecDepth 100000 in
theorem cd_X6_usable : Cond.code yX6_usable cX6_usable 7 (some .int) ∈ gt := gm_5 27 rfl rfl
abbrev fX6_look (d : Nat) : xF := (yX6_look, cX6_look, 5, (some .long), false, false, d, 0, 0)
set_option maxRecDepth 100000 in
theorem cd_X6_look : Cond.code yX6_look cX6_look 5 (some .long) ∈ gt := gm_5 31 rfl rfl
abbrev fX6_isSomething (d : Nat) : xF := (yX6_isSomething, cX6_isSomething, 4, (some .boolean), false, false, d, 0, 0)
set_option maxRecDepth 100000 in
theorem cd_X6_isSomething : Cond.code yX6_isSomething cX6_isSomething 4 (some .boolean) ∈ gt := gm_5 39 rfl rfl
abbrev fX6_put (d : Nat) : xF := (yX6_put, cX6_put, 7, (some .int), false, false, d, 0, 0)
set_option maxRecDepth 100000 in
theorem cd_X6_put : Cond.code yX6_put cX6_put 7 (some .int) ∈ gt := gm_5 35 rfl rfl
abbrev fX6_swap (d : Nat) : xF := (yX6_swap, cX6_swap, 8, (some .int), false, false, d, 0, 0)
set_option maxRecDepth 100000 in
theorem cd_X6_swap : Cond.code yX6_swap cX6_swap 8 (some .int) ∈ gt := gm_5 48 rfl rfl
abbrev fX6_went (d : Nat) : xF := (yX6_went, cX6_went, 2, (some .int), false, false, d, 0, 0)
set_option maxRecDepth 100000 in
theorem cd_X6_went : Cond.code yX6_went cX6_went 2 (some .int) ∈ gt := gm_5 52 rfl rfl
abbrev fX6_carry (d : Nat) : xF := (yX6_carry, cX6_carry, 8, (some .int), false, false, d, 0, 0)
set_option maxRecDepth 100000 in
theorem cd_X6_carry : Cond.code yX6_carry cX6_carry 8 (some .int) ∈ gt := gm_5 56 rfl rfl
abbrev fX6_firstRefused (d : Nat) : xF := (yX6_firstRefused, cX6_firstRefused, 4, (some .int), false, false, d, 0, 0)
set_option maxRecDepth 100000 in
theorem cd_X6_firstRefused : Cond.code yX6_firstRefused cX6_firstRefused 4 (some .int) ∈ gt := gm_5 68 rfl rfl
abbrev fX6_converted (d : Nat) : xF := (yX6_converted, cX6_converted, 5, (some .int), false, false, d, 0, 0)
set_option maxRecDepth 100000 in
theorem cd_X6_converted : Cond.code yX6_converted cX6_converted 5 (some .int) ∈ gt := gm_5 72 rfl rfl
abbrev fX6_convert (d : Nat) : xF := (yX6_convert, cX6_convert, 5, (some .int), false, false, d, 0, 0)
set_option maxRecDepth 100000 in
theorem cd_X6_convert : Cond.code yX6_convert cX6_convert 5 (some .int) ∈ gt := gm_5 64 rfl rfl
abbrev fX6_namedIn (d : Nat) : xF := (yX6_namedIn, cX6_namedIn, 4, (some .int), false, false, d, 0, 0)
set_option maxRecDepth 100000 in
theorem cd_X6_namedIn : Cond.code yX6_namedIn cX6_namedIn 4 (some .int) ∈ gt := gm_5 80 rfl rfl
abbrev fX6_shape (d : Nat) : xF := (yX6_shape, cX6_shape, 8, (some .int), false, false, d, 0, 0)
set_option maxRecDepth 100000 in
theorem cd_X6_shape : Cond.code yX6_shape cX6_shape 8 (some .int) ∈ gt := gm_5 76 rfl rfl
abbrev fX6_added (d : Nat) : xF := (yX6_added, cX6_added, 11, (some .long), false, false, d, 0, 0)
set_option maxRecDepth 100000 in
theorem cd_X6_added : Cond.code yX6_added cX6_added 11 (some .long) ∈ gt := gm_5 89 rfl rfl
abbrev fX6_sum (d : Nat) : xF := (yX6_sum, cX6_sum, 4, (some .long), false, false, d, 0, 0)
set_option maxRecDepth 100000 in
theorem cd_X6_sum : Cond.code yX6_sum cX6_sum 4 (some .long) ∈ gt := gm_5 84 rfl rfl
abbrev fX6_lays (d : Nat) : xF := (yX6_lays, cX6_lays, 2, none, false, false, d, 0, 0)
set_option maxRecDepth 100000 in
theorem cd_X6_lays : Cond.code yX6_lays cX6_lays 2 none ∈ gt := gm_5 110 rfl rfl
abbrev fX6_laysWhole (d : Nat) : xF := (yX6_laysWhole, cX6_laysWhole, 5, none, false, false, d, 0, 0)
set_option maxRecDepth 100000 in
theorem cd_X6_laysWhole : Cond.code yX6_laysWhole cX6_laysWhole 5 none ∈ gt := gm_5 131 rfl rfl
abbrev fX6_laysWord (d : Nat) : xF := (yX6_laysWord, cX6_laysWord, 9, none, false, false, d, 0, 0)
set_option maxRecDepth 100000 in
theorem cd_X6_laysWord : Cond.code yX6_laysWord cX6_laysWord 9 none ∈ gt := gm_5 106 rfl rfl
abbrev fX6_laysNumber (d : Nat) : xF := (yX6_laysNumber, cX6_laysNumber, 7, none, false, false, d, 0, 0)
set_option maxRecDepth 100000 in
theorem cd_X6_laysNumber : Cond.code yX6_laysNumber cX6_laysNumber 7 none ∈ gt := gm_5 126 rfl rfl
abbrev fX6_laysStep (d : Nat) : xF := (yX6_laysStep, cX6_laysStep, 7, none, false, false, d, 0, 0)
set_option maxRecDepth 100000 in
theorem cd_X6_laysStep : Cond.code yX6_laysStep cX6_laysStep 7 none ∈ gt := gm_5 136 rfl rfl
abbrev fX6_laysRuns (d : Nat) : xF := (yX6_laysRuns, cX6_laysRuns, 4, none, false, false, d, 0, 0)
set_option maxRecDepth 100000 in
theorem cd_X6_laysRuns : Cond.code yX6_laysRuns cX6_laysRuns 4 none ∈ gt := gm_5 122 rfl rfl
abbrev fX6_laysPlain (d : Nat) : xF := (yX6_laysPlain, cX6_laysPlain, 4, none, false, false, d, 0, 0)
set_option maxRecDepth 100000 in
theorem cd_X6_laysPlain : Cond.code yX6_laysPlain cX6_laysPlain 4 none ∈ gt := gm_5 118 rfl rfl
abbrev fX6_laysRow (d : Nat) : xF := (yX6_laysRow, cX6_laysRow, 4, none, false, false, d, 0, 0)
set_option maxRecDepth 100000 in
theorem cd_X6_laysRow : Cond.code yX6_laysRow cX6_laysRow 4 none ∈ gt := gm_5 114 rfl rfl
abbrev fX6_laysCell (d : Nat) : xF := (yX6_laysCell, cX6_laysCell, 5, none, false, false, d, 0, 0)
set_option maxRecDepth 100000 in
theorem cd_X6_laysCell : Cond.code yX6_laysCell cX6_laysCell 5 none ∈ gt := gm_5 140 rfl rfl
abbrev fX6_laysAll (d : Nat) : xF := (yX6_laysAll, cX6_laysAll, 5, (some .int), false, false, d, 0, 0)
set_option maxRecDepth 100000 in
theorem cd_X6_laysAll : Cond.code yX6_laysAll cX6_laysAll 5 (some .int) ∈ gt := gm_5 102 rfl rfl
abbrev fX6_holds (d : Nat) : xF := (yX6_holds, cX6_holds, 2, none, false, false, d, 0, 0)
set_option maxRecDepth 100000 in
theorem cd_X6_holds : Cond.code yX6_holds cX6_holds 2 none ∈ gt := gm_6 24 rfl rfl
abbrev fX6_unlike (d : Nat) : xF := (yX6_unlike, cX6_unlike, 3, (some .int), false, false, d, 0, 0)
set_option maxRecDepth 100000 in
theorem cd_X6_unlike : Cond.code yX6_unlike cX6_unlike 3 (some .int) ∈ gt := gm_6 28 rfl rfl
abbrev fX6_faults (d : Nat) : xF := (yX6_faults, cX6_faults, 2, none, false, false, d, 0, 0)
set_option maxRecDepth 100000 in
theorem cd_X6_faults : Cond.code yX6_faults cX6_faults 2 none ∈ gt := gm_5 188 rfl rfl
abbrev fX6_byteAt (d : Nat) : xF := (yX6_byteAt, cX6_byteAt, 2, (some .int), false, false, d, 0, 0)
set_option maxRecDepth 100000 in
theorem cd_X6_byteAt : Cond.code yX6_byteAt cX6_byteAt 2 (some .int) ∈ gt := gm_5 176 rfl rfl
abbrev fX6_part1 (d : Nat) : xF := (yX6_part1, cX6_part1, 4, (some .int), false, false, d, 0, 0)
set_option maxRecDepth 100000 in
theorem cd_X6_part1 : Cond.code yX6_part1 cX6_part1 4 (some .int) ∈ gt := gm_5 184 rfl rfl
abbrev fX6_readsWhole (d : Nat) : xF := (yX6_readsWhole, cX6_readsWhole, 6, (some .long), false, false, d, 0, 0)
set_option maxRecDepth 100000 in
theorem cd_X6_readsWhole : Cond.code yX6_readsWhole cX6_readsWhole 6 (some .long) ∈ gt := gm_5 210 rfl rfl
abbrev fX6_width (d : Nat) : xF := (yX6_width, cX6_width, 1, (some .int), false, false, d, 0, 0)
set_option maxRecDepth 100000 in
theorem cd_X6_width : Cond.code yX6_width cX6_width 1 (some .int) ∈ gt := gm_5 206 rfl rfl
abbrev fX6_isFraction (d : Nat) : xF := (yX6_isFraction, cX6_isFraction, 9, (some .boolean), false, false, d, 0, 0)
set_option maxRecDepth 100000 in
theorem cd_X6_isFraction : Cond.code yX6_isFraction cX6_isFraction 9 (some .boolean) ∈ gt := gm_5 214 rfl rfl
abbrev fX6_readsNumber (d : Nat) : xF := (yX6_readsNumber, cX6_readsNumber, 11, (some .long), false, false, d, 0, 0)
set_option maxRecDepth 100000 in
theorem cd_X6_readsNumber : Cond.code yX6_readsNumber cX6_readsNumber 11 (some .long) ∈ gt := gm_5 203 rfl rfl
abbrev fX6_readsStep (d : Nat) : xF := (yX6_readsStep, cX6_readsStep, 5, (some .long), false, false, d, 0, 0)
set_option maxRecDepth 100000 in
theorem cd_X6_readsStep : Cond.code yX6_readsStep cX6_readsStep 5 (some .long) ∈ gt := gm_5 228 rfl rfl
abbrev fX6_readsFlat (d : Nat) : xF := (yX6_readsFlat, cX6_readsFlat, 3, none, false, false, d, 0, 0)
set_option maxRecDepth 100000 in
theorem cd_X6_readsFlat : Cond.code yX6_readsFlat cX6_readsFlat 3 none ∈ gt := gm_5 199 rfl rfl
abbrev fX6_readsRuns (d : Nat) : xF := (yX6_readsRuns, cX6_readsRuns, 7, none, false, false, d, 0, 0)
set_option maxRecDepth 100000 in
theorem cd_X6_readsRuns : Cond.code yX6_readsRuns cX6_readsRuns 7 none ∈ gt := gm_5 220 rfl rfl
abbrev fX6_readsSteps (d : Nat) : xF := (yX6_readsSteps, cX6_readsSteps, 6, none, false, false, d, 0, 0)
set_option maxRecDepth 100000 in
theorem cd_X6_readsSteps : Cond.code yX6_readsSteps cX6_readsSteps 6 none ∈ gt := gm_5 224 rfl rfl
abbrev fX6_isRowTag (d : Nat) : xF := (yX6_isRowTag, cX6_isRowTag, 1, (some .boolean), false, false, d, 0, 0)
set_option maxRecDepth 100000 in
theorem cd_X6_isRowTag : Cond.code yX6_isRowTag cX6_isRowTag 1 (some .boolean) ∈ gt := gm_5 191 rfl rfl
abbrev fX6_readsRow (d : Nat) : xF := (yX6_readsRow, cX6_readsRow, 4, none, false, false, d, 0, 0)
set_option maxRecDepth 100000 in
theorem cd_X6_readsRow : Cond.code yX6_readsRow cX6_readsRow 4 none ∈ gt := gm_5 195 rfl rfl
abbrev fX6_readsWord (d : Nat) : xF := (yX6_readsWord, cX6_readsWord, 5, (some .long), false, false, d, 0, 0)
set_option maxRecDepth 100000 in
theorem cd_X6_readsWord : Cond.code yX6_readsWord cX6_readsWord 5 (some .long) ∈ gt := gm_5 180 rfl rfl
abbrev fX6_mayStand (d : Nat) : xF := (yX6_mayStand, cX6_mayStand, 3, (some .boolean), false, false, d, 0, 0)
set_option maxRecDepth 100000 in
theorem cd_X6_mayStand : Cond.code yX6_mayStand cX6_mayStand 3 (some .boolean) ∈ gt := gm_5 236 rfl rfl
abbrev fX6_readsCell (d : Nat) : xF := (yX6_readsCell, cX6_readsCell, 6, none, false, false, d, 0, 0)
set_option maxRecDepth 100000 in
theorem cd_X6_readsCell : Cond.code yX6_readsCell cX6_readsCell 6 none ∈ gt := gm_5 232 rfl rfl
abbrev fX6_readsItem (d : Nat) : xF := (yX6_readsItem, cX6_readsItem, 5, (some .int), false, false, d, 0, 0)
set_option maxRecDepth 100000 in
theorem cd_X6_readsItem : Cond.code yX6_readsItem cX6_readsItem 5 (some .int) ∈ gt := gm_5 172 rfl rfl
abbrev fX6_fromTape (d : Nat) : xF := (yX6_fromTape, cX6_fromTape, 2, none, false, false, d, 0, 0)
set_option maxRecDepth 100000 in
theorem cd_X6_fromTape : Cond.code yX6_fromTape cX6_fromTape 2 none ∈ gt := gm_5 168 rfl rfl
abbrev fX6_news (d : Nat) : xF := (yX6_news, cX6_news, 7, (some .int), false, false, d, 0, 0)
set_option maxRecDepth 100000 in
theorem cd_X6_news : Cond.code yX6_news cX6_news 7 (some .int) ∈ gt := gm_6 0 rfl rfl
abbrev fX6_mode (d : Nat) : xF := (yX6_mode, cX6_mode, 3, (some .int), false, false, d, 0, 0)
set_option maxRecDepth 100000 in
theorem cd_X6_mode : Cond.code yX6_mode cX6_mode 3 (some .int) ∈ gt := gm_5 93 rfl rfl
abbrev fX6_comes (d : Nat) : xF := (yX6_comes, cX6_comes, 2, (some .int), false, false, d, 0, 0)
set_option maxRecDepth 100000 in
theorem cd_X6_comes : Cond.code yX6_comes cX6_comes 2 (some .int) ∈ gt := gm_5 144 rfl rfl
abbrev fX6_lay (d : Nat) : xF := (yX6_lay, cX6_lay, 2, (some .int), false, false, d, 0, 0)
set_option maxRecDepth 100000 in
theorem cd_X6_lay : Cond.code yX6_lay cX6_lay 2 (some .int) ∈ gt := gm_5 98 rfl rfl
abbrev fX6_tape (d : Nat) : xF := (yX6_tape, cX6_tape, 2, (some .int), false, false, d, 0, 0)
set_option maxRecDepth 100000 in
theorem cd_X6_tape : Cond.code yX6_tape cX6_tape 2 (some .int) ∈ gt := gm_5 148 rfl rfl
abbrev fX6_poke (d : Nat) : xF := (yX6_poke, cX6_poke, 4, (some .int), false, false, d, 0, 0)
set_option maxRecDepth 100000 in
theorem cd_X6_poke : Cond.code yX6_poke cX6_poke 4 (some .int) ∈ gt := gm_5 152 rfl rfl
abbrev fX6_cut (d : Nat) : xF := (yX6_cut, cX6_cut, 3, (some .int), false, false, d, 0, 0)
set_option maxRecDepth 100000 in
theorem cd_X6_cut : Cond.code yX6_cut cX6_cut 3 (some .int) ∈ gt := gm_5 156 rfl rfl
abbrev fX6_seek (d : Nat) : xF := (yX6_seek, cX6_seek, 3, (some .int), false, false, d, 0, 0)
set_option maxRecDepth 100000 in
theorem cd_X6_seek : Cond.code yX6_seek cX6_seek 3 (some .int) ∈ gt := gm_5 160 rfl rfl
abbrev fX6_read (d : Nat) : xF := (yX6_read, cX6_read, 4, (some .int), false, false, d, 0, 0)
set_option maxRecDepth 100000 in
theorem cd_X6_read : Cond.code yX6_read cX6_read 4 (some .int) ∈ gt := gm_5 164 rfl rfl
abbrev fX6_readAs (d : Nat) : xF := (yX6_readAs, cX6_readAs, 4, (some .int), false, false, d, 0, 0)
set_option maxRecDepth 100000 in
theorem cd_X6_readAs : Cond.code yX6_readAs cX6_readAs 4 (some .int) ∈ gt := gm_6 4 rfl rfl
abbrev fX6_skip (d : Nat) : xF := (yX6_skip, cX6_skip, 3, (some .int), false, false, d, 0, 0)
set_option maxRecDepth 100000 in
theorem cd_X6_skip : Cond.code yX6_skip cX6_skip 3 (some .int) ∈ gt := gm_6 8 rfl rfl
abbrev fX6_relay (d : Nat) : xF := (yX6_relay, cX6_relay, 3, (some .int), false, false, d, 0, 0)
set_option maxRecDepth 100000 in
theorem cd_X6_relay : Cond.code yX6_relay cX6_relay 3 (some .int) ∈ gt := gm_6 12 rfl rfl
abbrev fX6_slack (d : Nat) : xF := (yX6_slack, cX6_slack, 4, (some .int), false, false, d, 0, 0)
set_option maxRecDepth 100000 in
theorem cd_X6_slack : Cond.code yX6_slack cX6_slack 4 (some .int) ∈ gt := gm_6 16 rfl rfl
abbrev fX6_find (d : Nat) : xF := (yX6_find, cX6_find, 3, (some .int), false, false, d, 0, 0)
set_option maxRecDepth 100000 in
theorem cd_X6_find : Cond.code yX6_find cX6_find 3 (some .int) ∈ gt := gm_6 20 rfl rfl
abbrev fX6_laid (d : Nat) : xF := (yX6_laid, cX6_laid, 3, (some .int), false, false, d, 0, 0)
set_option maxRecDepth 100000 in
theorem cd_X6_laid : Cond.code yX6_laid cX6_laid 3 (some .int) ∈ gt := gm_6 32 rfl rfl
abbrev fX6_part (d : Nat) : xF := (yX6_part, cX6_part, 4, (some .int), false, false, d, 0, 0)
set_option maxRecDepth 100000 in
theorem cd_X6_part : Cond.code yX6_part cX6_part 4 (some .int) ∈ gt := gm_6 36 rfl rfl
abbrev fX6_hangs (d : Nat) : xF := (yX6_hangs, cX6_hangs, 2, (some .int), false, false, d, 0, 0)
set_option maxRecDepth 100000 in
theorem cd_X6_hangs : Cond.code yX6_hangs cX6_hangs 2 (some .int) ∈ gt := gm_6 40 rfl rfl
abbrev fX6_far (d : Nat) : xF := (yX6_far, cX6_far, 9, (some .int), false, false, d, 0, 0)
set_option maxRecDepth 100000 in
theorem cd_X6_far : Cond.code yX6_far cX6_far 9 (some .int) ∈ gt := gm_6 44 rfl rfl
abbrev fX6_twin (d : Nat) : xF := (yX6_twin, cX6_twin, 2, (some .int), false, false, d, 0, 0)
set_option maxRecDepth 100000 in
theorem cd_X6_twin : Cond.code yX6_twin cX6_twin 2 (some .int) ∈ gt := gm_6 48 rfl rfl
abbrev fX6_called (d : Nat) : xF := (yX6_called, cX6_called, 2, (some .long), false, false, d, 0, 0)
set_option maxRecDepth 100000 in
theorem cd_X6_called : Cond.code yX6_called cX6_called 2 (some .long) ∈ gt := gm_6 52 rfl rfl
abbrev fX6_named (d : Nat) : xF := (yX6_named, cX6_named, 4, (some .int), false, false, d, 0, 0)
set_option maxRecDepth 100000 in
theorem cd_X6_named : Cond.code yX6_named cX6_named 4 (some .int) ∈ gt := gm_6 56 rfl rfl
abbrev fX6_count (d : Nat) : xF := (yX6_count, cX6_count, 2, (some .int), false, false, d, 0, 0)
set_option maxRecDepth 100000 in
theorem cd_X6_count : Cond.code yX6_count cX6_count 2 (some .int) ∈ gt := gm_6 60 rfl rfl
abbrev fJ6_numberOfLeadingZeros_0f7a4 (d : Nat) : xF := (yJ6_numberOfLeadingZeros_0f7a4, cJ6_numberOfLeadingZeros_0f7a4, 2, (some .int), false, false, d, 0, 0)
set_option maxRecDepth 100000 in
theorem cd_J6_numberOfLeadingZeros_0f7a4 : Cond.code yJ6_numberOfLeadingZeros_0f7a4 cJ6_numberOfLeadingZeros_0f7a4 2 (some .int) ∈ gt := gm_2 106 rfl rfl
abbrev fJ6_numberOfTrailingZeros_0f7a4 (d : Nat) : xF := (yJ6_numberOfTrailingZeros_0f7a4, cJ6_numberOfTrailingZeros_0f7a4, 2, (some .int), false, false, d, 0, 0)
set_option maxRecDepth 100000 in
theorem cd_J6_numberOfTrailingZeros_0f7a4 : Cond.code yJ6_numberOfTrailingZeros_0f7a4 cJ6_numberOfTrailingZeros_0f7a4 2 (some .int) ∈ gt := gm_2 79 rfl rfl
abbrev fJ13_numberOfLeadingZeros_95d88 (d : Nat) : xF := (yJ13_numberOfLeadingZeros_95d88, cJ13_numberOfLeadingZeros_95d88, 3, (some .int), false, false, d, 0, 0)
set_option maxRecDepth 100000 in
theorem cd_J13_numberOfLeadingZeros_95d88 : Cond.code yJ13_numberOfLeadingZeros_95d88 cJ13_numberOfLeadingZeros_95d88 3 (some .int) ∈ gt := gm_2 103 rfl rfl
abbrev fJ13_numberOfTrailingZeros_95d88 (d : Nat) : xF := (yJ13_numberOfTrailingZeros_95d88, cJ13_numberOfTrailingZeros_95d88, 3, (some .int), false, false, d, 0, 0)
set_option maxRecDepth 100000 in
theorem cd_J13_numberOfTrailingZeros_95d88 : Cond.code yJ13_numberOfTrailingZeros_95d88 cJ13_numberOfTrailingZeros_95d88 3 (some .int) ∈ gt := gm_2 76 rfl rfl
abbrev fJ9_max_7cf53 (d : Nat) : xF := (yJ9_max_7cf53, cJ9_max_7cf53, 2, (some .int), false, false, d, 0, 0)
set_option maxRecDepth 100000 in
theorem cd_J9_max_7cf53 : Cond.code yJ9_max_7cf53 cJ9_max_7cf53 2 (some .int) ∈ gt := gm_2 183 rfl rfl
abbrev fJ9_min_7cf53 (d : Nat) : xF := (yJ9_min_7cf53, cJ9_min_7cf53, 2, (some .int), false, false, d, 0, 0)
set_option maxRecDepth 100000 in
theorem cd_J9_min_7cf53 : Cond.code yJ9_min_7cf53 cJ9_min_7cf53 2 (some .int) ∈ gt := gm_2 89 rfl rfl
set_option maxRecDepth 100000 in
theorem in_L : Cond.initialized "TapePressLaw" ∈ gt := gm_1 0 rfl rfl
set_option maxRecDepth 100000 in
theorem in_X5 : Cond.initialized "TapePress" ∈ gt := gm_1 1 rfl rfl
set_option maxRecDepth 100000 in
theorem in_X3 : Cond.initialized "TapePress$Strip" ∈ gt := gm_1 2 rfl rfl
set_option maxRecDepth 100000 in
theorem in_X1 : Cond.initialized "TapePress$Reader" ∈ gt := gm_1 3 rfl rfl
set_option maxRecDepth 100000 in
theorem in_X2 : Cond.initialized "TapePress$Row" ∈ gt := gm_1 4 rfl rfl
set_option maxRecDepth 100000 in
theorem in_X4 : Cond.initialized "TapePress$Writer" ∈ gt := gm_1 5 rfl rfl
set_option maxRecDepth 100000 in
theorem in_X6 : Cond.initialized "TapePressModel" ∈ gt := gm_1 6 rfl rfl
set_option maxRecDepth 100000 in
theorem in_X0 : Cond.initialized "TapePress$Numbers" ∈ gt := gm_1 7 rfl rfl
set_option maxRecDepth 100000 in
theorem in_J10 : Cond.initialized "java/lang/System" ∈ gt := gm_1 8 rfl rfl
set_option maxRecDepth 100000 in
theorem in_J13 : Cond.initialized "java/lang/Long" ∈ gt := gm_1 9 rfl rfl
set_option maxRecDepth 100000 in
theorem in_J6 : Cond.initialized "java/lang/Integer" ∈ gt := gm_1 10 rfl rfl
set_option maxRecDepth 100000 in
theorem in_J9 : Cond.initialized "java/lang/Math" ∈ gt := gm_1 11 rfl rfl
set_option maxRecDepth 100000 in
theorem fl_X3_15 : xFL RX3 15 2 0 (.array .int) true := ⟨_, rfl, by decide, gm_1 28 rfl rfl, rfl, rfl, rfl⟩
set_option maxRecDepth 100000 in
theorem fl_X3_9 : xFL RX3 9 2 1 .int false := ⟨_, rfl, by decide, gm_1 29 rfl rfl, rfl, rfl, rfl⟩
set_option maxRecDepth 100000 in
theorem fl_X4_30 : xFL RX4 30 2 1 .int false := ⟨_, rfl, by decide, gm_1 30 rfl rfl, rfl, rfl, rfl⟩
set_option maxRecDepth 100000 in
theorem fl_X1_125 : xFL RX1 125 2 1 .int false := ⟨_, rfl, by decide, gm_1 31 rfl rfl, rfl, rfl, rfl⟩
set_option maxRecDepth 100000 in
theorem fl_X5_226 : xFL RX5 226 2 1 .int false := ⟨_, rfl, by decide, gm_1 32 rfl rfl, rfl, rfl, rfl⟩
set_option maxRecDepth 100000 in
theorem fl_X2_9 : xFL RX2 9 1 0 .int false := ⟨_, rfl, by decide, gm_1 51 rfl rfl, rfl, rfl, rfl⟩
set_option maxRecDepth 100000 in
theorem fl_X4_45 : xFL RX4 45 1 0 .int false := ⟨_, rfl, by decide, gm_1 52 rfl rfl, rfl, rfl, rfl⟩
set_option maxRecDepth 100000 in
theorem fl_X5_98 : xFL RX5 98 1 0 .int false := ⟨_, rfl, by decide, gm_1 53 rfl rfl, rfl, rfl, rfl⟩
set_option maxRecDepth 100000 in
theorem fl_X1_86 : xFL RX1 86 1 0 .int false := ⟨_, rfl, by decide, gm_1 54 rfl rfl, rfl, rfl, rfl⟩
set_option maxRecDepth 100000 in
theorem fl_X2_15 : xFL RX2 15 1 1 .int false := ⟨_, rfl, by decide, gm_1 55 rfl rfl, rfl, rfl, rfl⟩
set_option maxRecDepth 100000 in
theorem fl_X4_73 : xFL RX4 73 1 1 .int false := ⟨_, rfl, by decide, gm_1 56 rfl rfl, rfl, rfl, rfl⟩
set_option maxRecDepth 100000 in
theorem fl_X5_104 : xFL RX5 104 1 1 .int false := ⟨_, rfl, by decide, gm_1 57 rfl rfl, rfl, rfl, rfl⟩
set_option maxRecDepth 100000 in
theorem fl_X1_83 : xFL RX1 83 1 1 .int false := ⟨_, rfl, by decide, gm_1 58 rfl rfl, rfl, rfl, rfl⟩
set_option maxRecDepth 100000 in
theorem fl_X2_18 : xFL RX2 18 1 2 (.array .int) true := ⟨_, rfl, by decide, gm_1 59 rfl rfl, rfl, rfl, rfl⟩
set_option maxRecDepth 100000 in
theorem fl_X4_74 : xFL RX4 74 1 2 (.array .int) true := ⟨_, rfl, by decide, gm_1 60 rfl rfl, rfl, rfl, rfl⟩
set_option maxRecDepth 100000 in
theorem fl_X5_170 : xFL RX5 170 1 2 (.array .int) true := ⟨_, rfl, by decide, gm_1 61 rfl rfl, rfl, rfl, rfl⟩
set_option maxRecDepth 100000 in
theorem fl_X2_22 : xFL RX2 22 1 3 (.array .long) true := ⟨_, rfl, by decide, gm_1 62 rfl rfl, rfl, rfl, rfl⟩
set_option maxRecDepth 100000 in
theorem fl_X4_48 : xFL RX4 48 1 3 (.array .long) true := ⟨_, rfl, by decide, gm_1 63 rfl rfl, rfl, rfl, rfl⟩
set_option maxRecDepth 100000 in
theorem fl_X5_142 : xFL RX5 142 1 3 (.array .long) true := ⟨_, rfl, by decide, gm_1 64 rfl rfl, rfl, rfl, rfl⟩
set_option maxRecDepth 100000 in
theorem fl_X1_11 : xFL RX1 11 0 0 (.array (.object "TapePress$Row")) true := ⟨_, rfl, by decide, gm_1 75 rfl rfl, rfl, rfl, rfl⟩
set_option maxRecDepth 100000 in
theorem fl_X5_51 : xFL RX5 51 0 0 (.array (.object "TapePress$Row")) true := ⟨_, rfl, by decide, gm_1 76 rfl rfl, rfl, rfl, rfl⟩
set_option maxRecDepth 100000 in
theorem fl_X1_17 : xFL RX1 17 0 1 .int false := ⟨_, rfl, by decide, gm_1 77 rfl rfl, rfl, rfl, rfl⟩
set_option maxRecDepth 100000 in
theorem fl_X5_319 : xFL RX5 319 0 1 .int false := ⟨_, rfl, by decide, gm_1 78 rfl rfl, rfl, rfl, rfl⟩
set_option maxRecDepth 100000 in
theorem fl_X1_21 : xFL RX1 21 0 2 .int false := ⟨_, rfl, by decide, gm_1 79 rfl rfl, rfl, rfl, rfl⟩
set_option maxRecDepth 100000 in
theorem fl_X5_245 : xFL RX5 245 0 2 .int false := ⟨_, rfl, by decide, gm_1 80 rfl rfl, rfl, rfl, rfl⟩
set_option maxRecDepth 100000 in
theorem fl_X1_24 : xFL RX1 24 0 3 .int false := ⟨_, rfl, by decide, gm_1 81 rfl rfl, rfl, rfl, rfl⟩
set_option maxRecDepth 100000 in
theorem fl_X5_242 : xFL RX5 242 0 3 .int false := ⟨_, rfl, by decide, gm_1 82 rfl rfl, rfl, rfl, rfl⟩
set_option maxRecDepth 100000 in
theorem fl_X1_31 : xFL RX1 31 0 4 (.object "TapePress$Strip") false := ⟨_, rfl, by decide, gm_1 83 rfl rfl, rfl, rfl, rfl⟩
set_option maxRecDepth 100000 in
theorem fl_X1_27 : xFL RX1 27 0 5 .long false := ⟨_, rfl, by decide, gm_1 84 rfl rfl, rfl, rfl, rfl⟩
set_option maxRecDepth 100000 in
theorem fl_X4_22 : xFL RX4 22 3 0 (.array (.object "TapePress$Row")) true := ⟨_, rfl, by decide, gm_1 104 rfl rfl, rfl, rfl, rfl⟩
set_option maxRecDepth 100000 in
theorem fl_X4_26 : xFL RX4 26 3 1 (.object "TapePress$Strip") true := ⟨_, rfl, by decide, gm_1 105 rfl rfl, rfl, rfl, rfl⟩
set_option maxRecDepth 100000 in
theorem fl_X4_9 : xFL RX4 9 3 2 (.array .int) true := ⟨_, rfl, by decide, gm_1 106 rfl rfl, rfl, rfl, rfl⟩
set_option maxRecDepth 100000 in
theorem fl_X4_15 : xFL RX4 15 3 3 .int false := ⟨_, rfl, by decide, gm_1 107 rfl rfl, rfl, rfl, rfl⟩
set_option maxRecDepth 100000 in
theorem fl_X4_19 : xFL RX4 19 3 4 .int false := ⟨_, rfl, by decide, gm_1 108 rfl rfl, rfl, rfl, rfl⟩
set_option maxRecDepth 100000 in
theorem fl_X5_11 : xFL RX5 11 4 0 (.array (.object "TapePress$Row")) true := ⟨_, rfl, by decide, gm_1 121 rfl rfl, rfl, rfl, rfl⟩
set_option maxRecDepth 100000 in
theorem fl_X5_20 : xFL RX5 20 4 1 (.object "TapePress$Strip") true := ⟨_, rfl, by decide, gm_1 122 rfl rfl, rfl, rfl, rfl⟩
set_option maxRecDepth 100000 in
theorem fl_X5_24 : xFL RX5 24 4 2 (.object "TapePress$Strip") true := ⟨_, rfl, by decide, gm_1 123 rfl rfl, rfl, rfl, rfl⟩
set_option maxRecDepth 100000 in
theorem fl_X5_27 : xFL RX5 27 4 3 (.object "TapePress$Strip") true := ⟨_, rfl, by decide, gm_1 124 rfl rfl, rfl, rfl, rfl⟩
set_option maxRecDepth 100000 in
theorem fl_X5_35 : xFL RX5 35 4 4 (.object "TapePress$Reader") true := ⟨_, rfl, by decide, gm_1 125 rfl rfl, rfl, rfl, rfl⟩
set_option maxRecDepth 100000 in
theorem fl_X5_44 : xFL RX5 44 4 5 (.object "TapePress$Writer") true := ⟨_, rfl, by decide, gm_1 126 rfl rfl, rfl, rfl, rfl⟩
set_option maxRecDepth 100000 in
theorem fl_X5_48 : xFL RX5 48 4 6 (.object "TapePress$Writer") true := ⟨_, rfl, by decide, gm_1 127 rfl rfl, rfl, rfl, rfl⟩
set_option maxRecDepth 100000 in
theorem fl_X5_54 : xFL RX5 54 4 7 (.object "TapePress$Writer") true := ⟨_, rfl, by decide, gm_1 128 rfl rfl, rfl, rfl, rfl⟩
set_option maxRecDepth 100000 in
theorem fl_X5_57 : xFL RX5 57 4 8 (.array .int) true := ⟨_, rfl, by decide, gm_1 129 rfl rfl, rfl, rfl, rfl⟩
set_option maxRecDepth 100000 in
theorem fl_X5_61 : xFL RX5 61 4 9 (.array .int) true := ⟨_, rfl, by decide, gm_1 130 rfl rfl, rfl, rfl, rfl⟩
set_option maxRecDepth 100000 in
theorem fl_X5_64 : xFL RX5 64 4 10 .int false := ⟨_, rfl, by decide, gm_1 131 rfl rfl, rfl, rfl, rfl⟩
set_option maxRecDepth 100000 in
theorem fl_X5_68 : xFL RX5 68 4 11 .int false := ⟨_, rfl, by decide, gm_1 132 rfl rfl, rfl, rfl, rfl⟩
set_option maxRecDepth 100000 in
theorem fl_X5_71 : xFL RX5 71 4 12 .int false := ⟨_, rfl, by decide, gm_1 133 rfl rfl, rfl, rfl, rfl⟩
set_option maxRecDepth 100000 in
theorem fl_X5_74 : xFL RX5 74 4 13 .int false := ⟨_, rfl, by decide, gm_1 134 rfl rfl, rfl, rfl, rfl⟩
set_option maxRecDepth 100000 in
theorem fs_X0_15 : Cond.fieldLink RX0 15 (xsC 0).1 (xsC 0).2.1 (xsC 0).2.2 ∈ gt := gm_2 55 rfl rfl
set_option maxRecDepth 100000 in
theorem fs_X0_19 : Cond.fieldLink RX0 19 (xsC 1).1 (xsC 1).2.1 (xsC 1).2.2 ∈ gt := gm_2 119 rfl rfl
set_option maxRecDepth 100000 in
theorem fs_X0_23 : Cond.fieldLink RX0 23 (xsC 2).1 (xsC 2).2.1 (xsC 2).2.2 ∈ gt := gm_2 121 rfl rfl
set_option maxRecDepth 100000 in
theorem fs_X5_270 : Cond.fieldLink RX5 270 (xsC 4).1 (xsC 4).2.1 (xsC 4).2.2 ∈ gt := gm_2 211 rfl rfl
set_option maxRecDepth 100000 in
theorem fs_X4_120 : Cond.fieldLink RX4 120 (xsC 3).1 (xsC 3).2.1 (xsC 3).2.2 ∈ gt := gm_3 31 rfl rfl
set_option maxRecDepth 100000 in
theorem fs_X1_121 : Cond.fieldLink RX1 121 (xsC 3).1 (xsC 3).2.1 (xsC 3).2.2 ∈ gt := gm_3 128 rfl rfl
set_option maxRecDepth 100000 in
theorem fl_X6_7 : xFL RX6 7 5 0 (.array .int) true := ⟨_, rfl, by decide, gm_4 27 rfl rfl, rfl, rfl, rfl⟩
set_option maxRecDepth 100000 in
theorem fl_X6_13 : xFL RX6 13 5 1 (.array .int) true := ⟨_, rfl, by decide, gm_4 28 rfl rfl, rfl, rfl, rfl⟩
set_option maxRecDepth 100000 in
theorem fl_X6_16 : xFL RX6 16 5 2 (.array .long) true := ⟨_, rfl, by decide, gm_4 29 rfl rfl, rfl, rfl, rfl⟩
set_option maxRecDepth 100000 in
theorem fl_X6_20 : xFL RX6 20 5 3 (.array .int) true := ⟨_, rfl, by decide, gm_4 30 rfl rfl, rfl, rfl, rfl⟩
set_option maxRecDepth 100000 in
theorem fl_X6_23 : xFL RX6 23 5 4 (.array .long) true := ⟨_, rfl, by decide, gm_4 31 rfl rfl, rfl, rfl, rfl⟩
set_option maxRecDepth 100000 in
theorem fl_X6_26 : xFL RX6 26 5 5 (.array .int) true := ⟨_, rfl, by decide, gm_4 32 rfl rfl, rfl, rfl, rfl⟩
set_option maxRecDepth 100000 in
theorem fl_X6_354 : xFL RX6 354 5 6 .int false := ⟨_, rfl, by decide, gm_4 33 rfl rfl, rfl, rfl, rfl⟩
set_option maxRecDepth 100000 in
theorem fl_X6_366 : xFL RX6 366 5 7 .int false := ⟨_, rfl, by decide, gm_4 34 rfl rfl, rfl, rfl, rfl⟩
set_option maxRecDepth 100000 in
theorem fl_X6_357 : xFL RX6 357 5 8 .int false := ⟨_, rfl, by decide, gm_4 35 rfl rfl, rfl, rfl, rfl⟩
set_option maxRecDepth 100000 in
theorem fl_X6_138 : xFL RX6 138 5 9 .int false := ⟨_, rfl, by decide, gm_4 36 rfl rfl, rfl, rfl, rfl⟩
set_option maxRecDepth 100000 in
theorem fl_X6_29 : xFL RX6 29 5 10 .int false := ⟨_, rfl, by decide, gm_4 37 rfl rfl, rfl, rfl, rfl⟩
set_option maxRecDepth 100000 in
theorem fl_X6_33 : xFL RX6 33 5 11 (.array .int) true := ⟨_, rfl, by decide, gm_4 38 rfl rfl, rfl, rfl, rfl⟩
set_option maxRecDepth 100000 in
theorem fl_X6_36 : xFL RX6 36 5 12 (.array .int) true := ⟨_, rfl, by decide, gm_4 39 rfl rfl, rfl, rfl, rfl⟩
set_option maxRecDepth 100000 in
theorem fl_X6_235 : xFL RX6 235 5 13 .int false := ⟨_, rfl, by decide, gm_4 40 rfl rfl, rfl, rfl, rfl⟩
set_option maxRecDepth 100000 in
theorem fl_X6_39 : xFL RX6 39 5 14 (.array .int) true := ⟨_, rfl, by decide, gm_4 41 rfl rfl, rfl, rfl, rfl⟩
set_option maxRecDepth 100000 in
theorem fl_X6_280 : xFL RX6 280 5 15 .int false := ⟨_, rfl, by decide, gm_4 42 rfl rfl, rfl, rfl, rfl⟩
set_option maxRecDepth 100000 in
theorem fl_X6_42 : xFL RX6 42 5 16 (.array .int) true := ⟨_, rfl, by decide, gm_4 43 rfl rfl, rfl, rfl, rfl⟩
set_option maxRecDepth 100000 in
theorem fl_X6_261 : xFL RX6 261 5 17 .int false := ⟨_, rfl, by decide, gm_4 44 rfl rfl, rfl, rfl, rfl⟩
set_option maxRecDepth 100000 in
theorem fl_X6_45 : xFL RX6 45 5 18 (.array .int) true := ⟨_, rfl, by decide, gm_4 45 rfl rfl, rfl, rfl, rfl⟩
set_option maxRecDepth 100000 in
theorem fl_X6_267 : xFL RX6 267 5 19 .int false := ⟨_, rfl, by decide, gm_4 46 rfl rfl, rfl, rfl, rfl⟩
set_option maxRecDepth 100000 in
theorem fl_X6_48 : xFL RX6 48 5 20 (.array .int) true := ⟨_, rfl, by decide, gm_4 47 rfl rfl, rfl, rfl, rfl⟩
set_option maxRecDepth 100000 in
theorem fl_X6_51 : xFL RX6 51 5 21 (.array .int) true := ⟨_, rfl, by decide, gm_4 48 rfl rfl, rfl, rfl, rfl⟩
set_option maxRecDepth 100000 in
theorem fl_X6_54 : xFL RX6 54 5 22 (.array .int) true := ⟨_, rfl, by decide, gm_4 49 rfl rfl, rfl, rfl, rfl⟩
set_option maxRecDepth 100000 in
theorem fl_X6_286 : xFL RX6 286 5 23 .int false := ⟨_, rfl, by decide, gm_4 50 rfl rfl, rfl, rfl, rfl⟩
set_option maxRecDepth 100000 in
theorem fl_X6_289 : xFL RX6 289 5 24 .int false := ⟨_, rfl, by decide, gm_4 51 rfl rfl, rfl, rfl, rfl⟩
set_option maxRecDepth 100000 in
theorem fl_X6_283 : xFL RX6 283 5 25 .int false := ⟨_, rfl, by decide, gm_4 52 rfl rfl, rfl, rfl, rfl⟩
set_option maxRecDepth 100000 in
theorem fl_X6_327 : xFL RX6 327 5 26 .int false := ⟨_, rfl, by decide, gm_4 53 rfl rfl, rfl, rfl, rfl⟩
set_option maxRecDepth 100000 in
theorem fl_X6_121 : xFL RX6 121 5 27 .int false := ⟨_, rfl, by decide, gm_4 54 rfl rfl, rfl, rfl, rfl⟩
set_option maxRecDepth 100000 in
theorem fl_X6_124 : xFL RX6 124 5 28 .long false := ⟨_, rfl, by decide, gm_4 55 rfl rfl, rfl, rfl, rfl⟩
set_option maxRecDepth 100000 in
theorem fl_X6_57 : xFL RX6 57 5 29 (.array .int) true := ⟨_, rfl, by decide, gm_4 56 rfl rfl, rfl, rfl, rfl⟩
set_option maxRecDepth 100000 in
theorem fl_X6_60 : xFL RX6 60 5 30 (.array .int) true := ⟨_, rfl, by decide, gm_4 57 rfl rfl, rfl, rfl, rfl⟩
set_option maxRecDepth 100000 in
theorem fl_X6_63 : xFL RX6 63 5 31 (.array .int) true := ⟨_, rfl, by decide, gm_4 58 rfl rfl, rfl, rfl, rfl⟩
set_option maxRecDepth 100000 in
theorem fl_X6_66 : xFL RX6 66 5 32 (.array .long) true := ⟨_, rfl, by decide, gm_4 59 rfl rfl, rfl, rfl, rfl⟩
set_option maxRecDepth 100000 in
theorem ml_L_9 : xML RL 9 yX5_init cX5_init 2 none 0 := ⟨gm_1 14 rfl rfl, in_X5, cd_X5_init, ⟨by decide +kernel, by decide +kernel, by decide +kernel⟩, by decide⟩
set_option maxRecDepth 100000 in
theorem im_X5_init : Cond.instanceMethod yX5_init ∈ gt ∧ yX5_init.name = "<init>" := ⟨gm_1 15 rfl rfl, rfl⟩
set_option maxRecDepth 100000 in
theorem oi_X5_3 : Cond.methodLink RX5 3 objectInit ∈ gt := gm_1 17 rfl rfl
set_option maxRecDepth 100000 in
theorem ml_X5_17 : xML RX5 17 yX3_init cX3_init 2 none 1 := ⟨gm_1 24 rfl rfl, in_X3, cd_X3_init, ⟨by decide +kernel, by decide +kernel, by decide +kernel⟩, by decide⟩
set_option maxRecDepth 100000 in
theorem im_X3_init : Cond.instanceMethod yX3_init ∈ gt ∧ yX3_init.name = "<init>" := ⟨gm_1 25 rfl rfl, rfl⟩
set_option maxRecDepth 100000 in
theorem oi_X3_3 : Cond.methodLink RX3 3 objectInit ∈ gt := gm_1 27 rfl rfl
set_option maxRecDepth 100000 in
theorem ml_X5_32 : xML RX5 32 yX1_init cX1_init 3 none 1 := ⟨gm_1 41 rfl rfl, in_X1, cd_X1_init, ⟨by decide +kernel, by decide +kernel, by decide +kernel⟩, by decide⟩
set_option maxRecDepth 100000 in
theorem im_X1_init : Cond.instanceMethod yX1_init ∈ gt ∧ yX1_init.name = "<init>" := ⟨gm_1 42 rfl rfl, rfl⟩
set_option maxRecDepth 100000 in
theorem oi_X1_3 : Cond.methodLink RX1 3 objectInit ∈ gt := gm_1 44 rfl rfl
set_option maxRecDepth 100000 in
theorem oi_X2_3 : Cond.methodLink RX2 3 objectInit ∈ gt := gm_1 50 rfl rfl
set_option maxRecDepth 100000 in
theorem ml_X5_41 : xML RX5 41 yX4_init cX4_init 3 none 2 := ⟨gm_1 100 rfl rfl, in_X4, cd_X4_init, ⟨by decide +kernel, by decide +kernel, by decide +kernel⟩, by decide⟩
set_option maxRecDepth 100000 in
theorem im_X4_init : Cond.instanceMethod yX4_init ∈ gt ∧ yX4_init.name = "<init>" := ⟨gm_1 101 rfl rfl, rfl⟩
set_option maxRecDepth 100000 in
theorem oi_X4_3 : Cond.methodLink RX4 3 objectInit ∈ gt := gm_1 103 rfl rfl
set_option maxRecDepth 100000 in
theorem ml_L_15 : xML RL 15 yX5_make cX5_make 5 (some .int) 2 := ⟨gm_1 164 rfl rfl, in_X5, cd_X5_make, ⟨by decide +kernel, by decide +kernel, by decide +kernel⟩, by decide⟩
set_option maxRecDepth 100000 in
theorem im_X5_make : Cond.instanceMethod yX5_make ∈ gt ∧ Cond.selects yX5_make.cls yX5_make yX5_make ∈ gt := ⟨gm_1 165 rfl rfl, gm_1 166 rfl rfl⟩
set_option maxRecDepth 100000 in
theorem ml_X5_78 : xML RX5 78 yX5_isContents cX5_isContents 3 (some .boolean) 2 := ⟨gm_1 168 rfl rfl, in_X5, cd_X5_isContents, ⟨by decide +kernel, by decide +kernel, by decide +kernel⟩, by decide⟩
set_option maxRecDepth 100000 in
theorem sm_X5_isContents : Cond.static yX5_isContents ∈ gt := gm_1 169 rfl rfl
set_option maxRecDepth 100000 in
theorem ml_X5_273 : xML RX5 273 yX5_isWord cX5_isWord 5 (some .boolean) 1 := ⟨gm_1 171 rfl rfl, in_X5, cd_X5_isWord, ⟨by decide +kernel, by decide +kernel, by decide +kernel⟩, by decide⟩
set_option maxRecDepth 100000 in
theorem sm_X5_isWord : Cond.static yX5_isWord ∈ gt := gm_1 172 rfl rfl
set_option maxRecDepth 100000 in
theorem ml_X5_82 : xML RX5 82 yX5_lowestEmpty cX5_lowestEmpty 2 (some .int) 0 := ⟨gm_1 176 rfl rfl, in_X5, cd_X5_lowestEmpty, ⟨by decide +kernel, by decide +kernel, by decide +kernel⟩, by decide⟩
set_option maxRecDepth 100000 in
theorem im_X5_lowestEmpty : Cond.instanceMethod yX5_lowestEmpty ∈ gt ∧ Cond.selects yX5_lowestEmpty.cls yX5_lowestEmpty yX5_lowestEmpty ∈ gt := ⟨gm_1 178 rfl rfl, gm_0 0 rfl rfl⟩
set_option maxRecDepth 100000 in
theorem ml_X5_123 : xML RX5 123 yX2_isEmpty cX2_isEmpty 1 (some .boolean) 0 := ⟨gm_1 180 rfl rfl, in_X2, cd_X2_isEmpty, ⟨by decide +kernel, by decide +kernel, by decide +kernel⟩, by decide⟩
set_option maxRecDepth 100000 in
theorem im_X2_isEmpty : Cond.instanceMethod yX2_isEmpty ∈ gt ∧ Cond.selects yX2_isEmpty.cls yX2_isEmpty yX2_isEmpty ∈ gt := ⟨gm_1 181 rfl rfl, gm_1 182 rfl rfl⟩
set_option maxRecDepth 100000 in
theorem ml_X5_86 : xML RX5 86 yX2_beThing cX2_beThing 4 none 2 := ⟨gm_1 184 rfl rfl, in_X2, cd_X2_beThing, ⟨by decide +kernel, by decide +kernel, by decide +kernel⟩, by decide⟩
set_option maxRecDepth 100000 in
theorem im_X2_beThing : Cond.instanceMethod yX2_beThing ∈ gt ∧ Cond.selects yX2_beThing.cls yX2_beThing yX2_beThing ∈ gt := ⟨gm_1 185 rfl rfl, gm_1 186 rfl rfl⟩
set_option maxRecDepth 100000 in
theorem ml_X5_90 : xML RX5 90 yX2_beArray cX2_beArray 5 none 2 := ⟨gm_1 188 rfl rfl, in_X2, cd_X2_beArray, ⟨by decide +kernel, by decide +kernel, by decide +kernel⟩, by decide⟩
set_option maxRecDepth 100000 in
theorem im_X2_beArray : Cond.instanceMethod yX2_beArray ∈ gt ∧ Cond.selects yX2_beArray.cls yX2_beArray yX2_beArray ∈ gt := ⟨gm_1 189 rfl rfl, gm_1 190 rfl rfl⟩
set_option maxRecDepth 100000 in
theorem ml_X2_32 : xML RX2 32 yX2_isPrimitive cX2_isPrimitive 1 (some .boolean) 0 := ⟨gm_1 192 rfl rfl, in_X2, cd_X2_isPrimitive, ⟨by decide +kernel, by decide +kernel, by decide +kernel⟩, by decide⟩
set_option maxRecDepth 100000 in
theorem im_X2_isPrimitive : Cond.instanceMethod yX2_isPrimitive ∈ gt ∧ Cond.selects yX2_isPrimitive.cls yX2_isPrimitive yX2_isPrimitive ∈ gt := ⟨gm_1 193 rfl rfl, gm_1 194 rfl rfl⟩
set_option maxRecDepth 100000 in
theorem ml_X2_26 : xML RX2 26 yX0_isKind cX0_isKind 1 (some .boolean) 1 := ⟨gm_1 196 rfl rfl, in_X0, cd_X0_isKind, ⟨by decide +kernel, by decide +kernel, by decide +kernel⟩, by decide⟩
set_option maxRecDepth 100000 in
theorem sm_X0_isKind : Cond.static yX0_isKind ∈ gt := gm_1 197 rfl rfl
set_option maxRecDepth 100000 in
theorem ml_X2_36 : xML RX2 36 yX2_fill cX2_fill 5 none 3 := ⟨gm_1 199 rfl rfl, in_X2, cd_X2_fill, ⟨by decide +kernel, by decide +kernel, by decide +kernel⟩, by decide⟩
set_option maxRecDepth 100000 in
theorem im_X2_fill : Cond.instanceMethod yX2_fill ∈ gt ∧ Cond.selects yX2_fill.cls yX2_fill yX2_fill ∈ gt := ⟨gm_1 200 rfl rfl, gm_1 201 rfl rfl⟩
set_option maxRecDepth 100000 in
theorem ml_L_20 : xML RL 20 yX5_kind cX5_kind 3 (some .int) 1 := ⟨gm_1 203 rfl rfl, in_X5, cd_X5_kind, ⟨by decide +kernel, by decide +kernel, by decide +kernel⟩, by decide⟩
set_option maxRecDepth 100000 in
theorem im_X5_kind : Cond.instanceMethod yX5_kind ∈ gt ∧ Cond.selects yX5_kind.cls yX5_kind yX5_kind ∈ gt := ⟨gm_1 204 rfl rfl, gm_1 205 rfl rfl⟩
set_option maxRecDepth 100000 in
theorem ml_X5_94 : xML RX5 94 yX5_slotError cX5_slotError 2 (some .int) 1 := ⟨gm_1 207 rfl rfl, in_X5, cd_X5_slotError, ⟨by decide +kernel, by decide +kernel, by decide +kernel⟩, by decide⟩
set_option maxRecDepth 100000 in
theorem im_X5_slotError : Cond.instanceMethod yX5_slotError ∈ gt ∧ Cond.selects yX5_slotError.cls yX5_slotError yX5_slotError ∈ gt := ⟨gm_1 209 rfl rfl, gm_0 1 rfl rfl⟩
set_option maxRecDepth 100000 in
theorem ml_X5_281 : xML RX5 281 yX5_isSlot cX5_isSlot 2 (some .boolean) 1 := ⟨gm_1 211 rfl rfl, in_X5, cd_X5_isSlot, ⟨by decide +kernel, by decide +kernel, by decide +kernel⟩, by decide⟩
set_option maxRecDepth 100000 in
theorem sm_X5_isSlot : Cond.static yX5_isSlot ∈ gt := gm_1 212 rfl rfl
set_option maxRecDepth 100000 in
theorem ml_L_25 : xML RL 25 yX5_size cX5_size 3 (some .int) 1 := ⟨gm_1 215 rfl rfl, in_X5, cd_X5_size, ⟨by decide +kernel, by decide +kernel, by decide +kernel⟩, by decide⟩
set_option maxRecDepth 100000 in
theorem im_X5_size : Cond.instanceMethod yX5_size ∈ gt ∧ Cond.selects yX5_size.cls yX5_size yX5_size ∈ gt := ⟨gm_1 216 rfl rfl, gm_1 217 rfl rfl⟩
set_option maxRecDepth 100000 in
theorem ml_X5_101 : xML RX5 101 yX5_arrayError cX5_arrayError 3 (some .int) 1 := ⟨gm_1 219 rfl rfl, in_X5, cd_X5_arrayError, ⟨by decide +kernel, by decide +kernel, by decide +kernel⟩, by decide⟩
set_option maxRecDepth 100000 in
theorem im_X5_arrayError : Cond.instanceMethod yX5_arrayError ∈ gt ∧ Cond.selects yX5_arrayError.cls yX5_arrayError yX5_arrayError ∈ gt := ⟨gm_1 221 rfl rfl, gm_0 2 rfl rfl⟩
set_option maxRecDepth 100000 in
theorem ml_X5_251 : xML RX5 251 yX2_isArray cX2_isArray 1 (some .boolean) 0 := ⟨gm_1 223 rfl rfl, in_X2, cd_X2_isArray, ⟨by decide +kernel, by decide +kernel, by decide +kernel⟩, by decide⟩
set_option maxRecDepth 100000 in
theorem im_X2_isArray : Cond.instanceMethod yX2_isArray ∈ gt ∧ Cond.selects yX2_isArray.cls yX2_isArray yX2_isArray ∈ gt := ⟨gm_1 224 rfl rfl, gm_1 225 rfl rfl⟩
set_option maxRecDepth 100000 in
theorem ml_L_29 : xML RL 29 yX5_drop cX5_drop 4 (some .int) 1 := ⟨gm_1 227 rfl rfl, in_X5, cd_X5_drop, ⟨by decide +kernel, by decide +kernel, by decide +kernel⟩, by decide⟩
set_option maxRecDepth 100000 in
theorem im_X5_drop : Cond.instanceMethod yX5_drop ∈ gt ∧ Cond.selects yX5_drop.cls yX5_drop yX5_drop ∈ gt := ⟨gm_1 228 rfl rfl, gm_1 229 rfl rfl⟩
set_option maxRecDepth 100000 in
theorem ml_X5_107 : xML RX5 107 yX5_linksOf cX5_linksOf 5 (some .int) 1 := ⟨gm_1 231 rfl rfl, in_X5, cd_X5_linksOf, ⟨by decide +kernel, by decide +kernel, by decide +kernel⟩, by decide⟩
set_option maxRecDepth 100000 in
theorem im_X5_linksOf : Cond.instanceMethod yX5_linksOf ∈ gt ∧ Cond.selects yX5_linksOf.cls yX5_linksOf yX5_linksOf ∈ gt := ⟨gm_1 233 rfl rfl, gm_0 3 rfl rfl⟩
set_option maxRecDepth 100000 in
theorem ml_X5_110 : xML RX5 110 yX5_has cX5_has 2 (some .boolean) 2 := ⟨gm_1 235 rfl rfl, in_X5, cd_X5_has, ⟨by decide +kernel, by decide +kernel, by decide +kernel⟩, by decide⟩
set_option maxRecDepth 100000 in
theorem sm_X5_has : Cond.static yX5_has ∈ gt := gm_1 236 rfl rfl
set_option maxRecDepth 100000 in
theorem ml_X5_114 : xML RX5 114 yX2_beEmpty cX2_beEmpty 1 none 0 := ⟨gm_1 238 rfl rfl, in_X2, cd_X2_beEmpty, ⟨by decide +kernel, by decide +kernel, by decide +kernel⟩, by decide⟩
set_option maxRecDepth 100000 in
theorem im_X2_beEmpty : Cond.instanceMethod yX2_beEmpty ∈ gt ∧ Cond.selects yX2_beEmpty.cls yX2_beEmpty yX2_beEmpty ∈ gt := ⟨gm_1 239 rfl rfl, gm_2 0 rfl rfl⟩
set_option maxRecDepth 100000 in
theorem ml_X5_117 : xML RX5 117 yX5_filledSlots cX5_filledSlots 3 (some .int) 0 := ⟨gm_2 2 rfl rfl, in_X5, cd_X5_filledSlots, ⟨by decide +kernel, by decide +kernel, by decide +kernel⟩, by decide⟩
set_option maxRecDepth 100000 in
theorem im_X5_filledSlots : Cond.instanceMethod yX5_filledSlots ∈ gt ∧ Cond.selects yX5_filledSlots.cls yX5_filledSlots yX5_filledSlots ∈ gt := ⟨gm_2 4 rfl rfl, gm_0 4 rfl rfl⟩
set_option maxRecDepth 100000 in
theorem ml_L_33 : xML RL 33 yX5_gather cX5_gather 6 (some .int) 1 := ⟨gm_2 6 rfl rfl, in_X5, cd_X5_gather, ⟨by decide +kernel, by decide +kernel, by decide +kernel⟩, by decide⟩
set_option maxRecDepth 100000 in
theorem im_X5_gather : Cond.instanceMethod yX5_gather ∈ gt ∧ Cond.selects yX5_gather.cls yX5_gather yX5_gather ∈ gt := ⟨gm_2 7 rfl rfl, gm_2 8 rfl rfl⟩
set_option maxRecDepth 100000 in
theorem ml_X5_120 : xML RX5 120 yX5_hangingOn cX5_hangingOn 4 (some .int) 1 := ⟨gm_2 10 rfl rfl, in_X5, cd_X5_hangingOn, ⟨by decide +kernel, by decide +kernel, by decide +kernel⟩, by decide⟩
set_option maxRecDepth 100000 in
theorem im_X5_hangingOn : Cond.instanceMethod yX5_hangingOn ∈ gt ∧ Cond.selects yX5_hangingOn.cls yX5_hangingOn yX5_hangingOn ∈ gt := ⟨gm_2 12 rfl rfl, gm_0 5 rfl rfl⟩
set_option maxRecDepth 100000 in
theorem ml_X5_267 : xML RX5 267 yX5_linksOfAll cX5_linksOfAll 4 (some .int) 1 := ⟨gm_2 14 rfl rfl, in_X5, cd_X5_linksOfAll, ⟨by decide +kernel, by decide +kernel, by decide +kernel⟩, by decide⟩
set_option maxRecDepth 100000 in
theorem im_X5_linksOfAll : Cond.instanceMethod yX5_linksOfAll ∈ gt ∧ Cond.selects yX5_linksOfAll.cls yX5_linksOfAll yX5_linksOfAll ∈ gt := ⟨gm_2 16 rfl rfl, gm_0 6 rfl rfl⟩
set_option maxRecDepth 100000 in
theorem ml_L_37 : xML RL 37 yX5_copyOf cX5_copyOf 4 (some .int) 1 := ⟨gm_2 18 rfl rfl, in_X5, cd_X5_copyOf, ⟨by decide +kernel, by decide +kernel, by decide +kernel⟩, by decide⟩
set_option maxRecDepth 100000 in
theorem im_X5_copyOf : Cond.instanceMethod yX5_copyOf ∈ gt ∧ Cond.selects yX5_copyOf.cls yX5_copyOf yX5_copyOf ∈ gt := ⟨gm_2 19 rfl rfl, gm_2 20 rfl rfl⟩
set_option maxRecDepth 100000 in
theorem ml_X5_127 : xML RX5 127 yX2_beLike cX2_beLike 2 none 1 := ⟨gm_2 22 rfl rfl, in_X2, cd_X2_beLike, ⟨by decide +kernel, by decide +kernel, by decide +kernel⟩, by decide⟩
set_option maxRecDepth 100000 in
theorem im_X2_beLike : Cond.instanceMethod yX2_beLike ∈ gt ∧ Cond.selects yX2_beLike.cls yX2_beLike yX2_beLike ∈ gt := ⟨gm_2 23 rfl rfl, gm_2 24 rfl rfl⟩
set_option maxRecDepth 100000 in
theorem ac_X2_40 : Cond.methodLink RX2 40 arraycopyName ∈ gt := gm_2 26 rfl rfl
set_option maxRecDepth 100000 in
theorem ml_L_41 : xML RL 41 yX5_get cX5_get 5 (some .long) 3 := ⟨gm_2 29 rfl rfl, in_X5, cd_X5_get, ⟨by decide +kernel, by decide +kernel, by decide +kernel⟩, by decide⟩
set_option maxRecDepth 100000 in
theorem im_X5_get : Cond.instanceMethod yX5_get ∈ gt ∧ Cond.selects yX5_get.cls yX5_get yX5_get ∈ gt := ⟨gm_2 30 rfl rfl, gm_2 31 rfl rfl⟩
set_option maxRecDepth 100000 in
theorem ml_X5_131 : xML RX5 131 yX5_getError cX5_getError 5 (some .int) 3 := ⟨gm_2 33 rfl rfl, in_X5, cd_X5_getError, ⟨by decide +kernel, by decide +kernel, by decide +kernel⟩, by decide⟩
set_option maxRecDepth 100000 in
theorem im_X5_getError : Cond.instanceMethod yX5_getError ∈ gt ∧ Cond.selects yX5_getError.cls yX5_getError yX5_getError ∈ gt := ⟨gm_2 35 rfl rfl, gm_0 7 rfl rfl⟩
set_option maxRecDepth 100000 in
theorem ml_X5_296 : xML RX5 296 yX0_isKind cX0_isKind 1 (some .boolean) 1 := ⟨gm_2 37 rfl rfl, in_X0, cd_X0_isKind, ⟨by decide +kernel, by decide +kernel, by decide +kernel⟩, by decide⟩
set_option maxRecDepth 100000 in
theorem ml_X5_201 : xML RX5 201 yX5_primitiveError cX5_primitiveError 3 (some .int) 1 := ⟨gm_2 38 rfl rfl, in_X5, cd_X5_primitiveError, ⟨by decide +kernel, by decide +kernel, by decide +kernel⟩, by decide⟩
set_option maxRecDepth 100000 in
theorem im_X5_primitiveError : Cond.instanceMethod yX5_primitiveError ∈ gt ∧ Cond.selects yX5_primitiveError.cls yX5_primitiveError yX5_primitiveError ∈ gt := ⟨gm_2 40 rfl rfl, gm_0 8 rfl rfl⟩
set_option maxRecDepth 100000 in
theorem ml_X5_284 : xML RX5 284 yX2_isPrimitive cX2_isPrimitive 1 (some .boolean) 0 := ⟨gm_2 42 rfl rfl, in_X2, cd_X2_isPrimitive, ⟨by decide +kernel, by decide +kernel, by decide +kernel⟩, by decide⟩
set_option maxRecDepth 100000 in
theorem ml_X5_164 : xML RX5 164 yX5_placeError cX5_placeError 4 (some .int) 2 := ⟨gm_2 43 rfl rfl, in_X5, cd_X5_placeError, ⟨by decide +kernel, by decide +kernel, by decide +kernel⟩, by decide⟩
set_option maxRecDepth 100000 in
theorem im_X5_placeError : Cond.instanceMethod yX5_placeError ∈ gt ∧ Cond.selects yX5_placeError.cls yX5_placeError yX5_placeError ∈ gt := ⟨gm_2 45 rfl rfl, gm_0 9 rfl rfl⟩
set_option maxRecDepth 100000 in
theorem ml_X5_287 : xML RX5 287 yX2_hasPlace cX2_hasPlace 2 (some .boolean) 1 := ⟨gm_2 47 rfl rfl, in_X2, cd_X2_hasPlace, ⟨by decide +kernel, by decide +kernel, by decide +kernel⟩, by decide⟩
set_option maxRecDepth 100000 in
theorem im_X2_hasPlace : Cond.instanceMethod yX2_hasPlace ∈ gt ∧ Cond.selects yX2_hasPlace.cls yX2_hasPlace yX2_hasPlace ∈ gt := ⟨gm_2 48 rfl rfl, gm_2 49 rfl rfl⟩
set_option maxRecDepth 100000 in
theorem ml_X5_167 : xML RX5 167 yX0_widens cX0_widens 2 (some .boolean) 2 := ⟨gm_2 51 rfl rfl, in_X0, cd_X0_widens, ⟨by decide +kernel, by decide +kernel, by decide +kernel⟩, by decide⟩
set_option maxRecDepth 100000 in
theorem sm_X0_widens : Cond.static yX0_widens ∈ gt := gm_2 52 rfl rfl
set_option maxRecDepth 100000 in
theorem ml_X0_9 : xML RX0 9 yX0_isKind cX0_isKind 1 (some .boolean) 1 := ⟨gm_2 54 rfl rfl, in_X0, cd_X0_isKind, ⟨by decide +kernel, by decide +kernel, by decide +kernel⟩, by decide⟩
set_option maxRecDepth 100000 in
theorem ml_X5_135 : xML RX5 135 yX5_tally cX5_tally 2 none 1 := ⟨gm_2 57 rfl rfl, in_X5, cd_X5_tally, ⟨by decide +kernel, by decide +kernel, by decide +kernel⟩, by decide⟩
set_option maxRecDepth 100000 in
theorem im_X5_tally : Cond.instanceMethod yX5_tally ∈ gt ∧ Cond.selects yX5_tally.cls yX5_tally yX5_tally ∈ gt := ⟨gm_2 59 rfl rfl, gm_0 10 rfl rfl⟩
set_option maxRecDepth 100000 in
theorem ml_X5_138 : xML RX5 138 yX5_report cX5_report 3 (some .int) 2 := ⟨gm_2 61 rfl rfl, in_X5, cd_X5_report, ⟨by decide +kernel, by decide +kernel, by decide +kernel⟩, by decide⟩
set_option maxRecDepth 100000 in
theorem im_X5_report : Cond.instanceMethod yX5_report ∈ gt ∧ Cond.selects yX5_report.cls yX5_report yX5_report ∈ gt := ⟨gm_2 63 rfl rfl, gm_0 11 rfl rfl⟩
set_option maxRecDepth 100000 in
theorem ml_X5_146 : xML RX5 146 yX0_widened cX0_widened 4 (some .long) 3 := ⟨gm_2 65 rfl rfl, in_X0, cd_X0_widened, ⟨by decide +kernel, by decide +kernel, by decide +kernel⟩, by decide⟩
set_option maxRecDepth 100000 in
theorem sm_X0_widened : Cond.static yX0_widened ∈ gt := gm_2 66 rfl rfl
set_option maxRecDepth 100000 in
theorem ml_X0_33 : xML RX0 33 yX0_real cX0_real 7 (some .double) 2 := ⟨gm_2 68 rfl rfl, in_X0, cd_X0_real, ⟨by decide +kernel, by decide +kernel, by decide +kernel⟩, by decide⟩
set_option maxRecDepth 100000 in
theorem sm_X0_real : Cond.static yX0_real ∈ gt := gm_2 69 rfl rfl
set_option maxRecDepth 100000 in
theorem ml_X0_57 : xML RX0 57 yX0_oddPart cX0_oddPart 9 (some .long) 2 := ⟨gm_2 71 rfl rfl, in_X0, cd_X0_oddPart, ⟨by decide +kernel, by decide +kernel, by decide +kernel⟩, by decide⟩
set_option maxRecDepth 100000 in
theorem sm_X0_oddPart : Cond.static yX0_oddPart ∈ gt := gm_2 72 rfl rfl
set_option maxRecDepth 100000 in
theorem ml_X0_67 : xML RX0 67 yJ13_numberOfTrailingZeros_95d88 cJ13_numberOfTrailingZeros_95d88 3 (some .int) 1 := ⟨gm_2 74 rfl rfl, in_J13, cd_J13_numberOfTrailingZeros_95d88, ⟨by decide +kernel, by decide +kernel, by decide +kernel⟩, by decide⟩
set_option maxRecDepth 100000 in
theorem sm_J13_numberOfTrailingZeros_95d88 : Cond.static yJ13_numberOfTrailingZeros_95d88 ∈ gt := gm_2 75 rfl rfl
set_option maxRecDepth 100000 in
theorem ml_J13_311 : xML RJ13 311 yJ6_numberOfTrailingZeros_0f7a4 cJ6_numberOfTrailingZeros_0f7a4 2 (some .int) 1 := ⟨gm_2 77 rfl rfl, in_J6, cd_J6_numberOfTrailingZeros_0f7a4, ⟨by decide +kernel, by decide +kernel, by decide +kernel⟩, by decide⟩
set_option maxRecDepth 100000 in
theorem sm_J6_numberOfTrailingZeros_0f7a4 : Cond.static yJ6_numberOfTrailingZeros_0f7a4 ∈ gt := gm_2 78 rfl rfl
set_option maxRecDepth 100000 in
theorem ml_X0_61 : xML RX0 61 yX0_powerPart cX0_powerPart 5 (some .int) 2 := ⟨gm_2 82 rfl rfl, in_X0, cd_X0_powerPart, ⟨by decide +kernel, by decide +kernel, by decide +kernel⟩, by decide⟩
set_option maxRecDepth 100000 in
theorem sm_X0_powerPart : Cond.static yX0_powerPart ∈ gt := gm_2 83 rfl rfl
set_option maxRecDepth 100000 in
theorem mm_X0_74 : Cond.methodLink RX0 74 Lib.Math.min.name ∈ gt := gm_2 87 rfl rfl
set_option maxRecDepth 100000 in
theorem ml_X0_27 : xML RX0 27 yX0_bitsOf cX0_bitsOf 8 (some .long) 2 := ⟨gm_2 91 rfl rfl, in_X0, cd_X0_bitsOf, ⟨by decide +kernel, by decide +kernel, by decide +kernel⟩, by decide⟩
set_option maxRecDepth 100000 in
theorem sm_X0_bitsOf : Cond.static yX0_bitsOf ∈ gt := gm_2 92 rfl rfl
set_option maxRecDepth 100000 in
theorem ml_X0_45 : xML RX0 45 yX0_scaledBits cX0_scaledBits 12 (some .long) 3 := ⟨gm_2 98 rfl rfl, in_X0, cd_X0_scaledBits, ⟨by decide +kernel, by decide +kernel, by decide +kernel⟩, by decide⟩
set_option maxRecDepth 100000 in
theorem sm_X0_scaledBits : Cond.static yX0_scaledBits ∈ gt := gm_2 99 rfl rfl
set_option maxRecDepth 100000 in
theorem ml_X0_49 : xML RX0 49 yJ13_numberOfLeadingZeros_95d88 cJ13_numberOfLeadingZeros_95d88 3 (some .int) 1 := ⟨gm_2 101 rfl rfl, in_J13, cd_J13_numberOfLeadingZeros_95d88, ⟨by decide +kernel, by decide +kernel, by decide +kernel⟩, by decide⟩
set_option maxRecDepth 100000 in
theorem sm_J13_numberOfLeadingZeros_95d88 : Cond.static yJ13_numberOfLeadingZeros_95d88 ∈ gt := gm_2 102 rfl rfl
set_option maxRecDepth 100000 in
theorem ml_J13_308 : xML RJ13 308 yJ6_numberOfLeadingZeros_0f7a4 cJ6_numberOfLeadingZeros_0f7a4 2 (some .int) 1 := ⟨gm_2 104 rfl rfl, in_J6, cd_J6_numberOfLeadingZeros_0f7a4, ⟨by decide +kernel, by decide +kernel, by decide +kernel⟩, by decide⟩
set_option maxRecDepth 100000 in
theorem sm_J6_numberOfLeadingZeros_0f7a4 : Cond.static yJ6_numberOfLeadingZeros_0f7a4 ∈ gt := gm_2 105 rfl rfl
set_option maxRecDepth 100000 in
theorem ml_L_46 : xML RL 46 yX5_set cX5_set 7 (some .int) 4 := ⟨gm_2 108 rfl rfl, in_X5, cd_X5_set, ⟨by decide +kernel, by decide +kernel, by decide +kernel⟩, by decide⟩
set_option maxRecDepth 100000 in
theorem im_X5_set : Cond.instanceMethod yX5_set ∈ gt ∧ Cond.selects yX5_set.cls yX5_set yX5_set ∈ gt := ⟨gm_2 109 rfl rfl, gm_2 110 rfl rfl⟩
set_option maxRecDepth 100000 in
theorem ml_X5_152 : xML RX5 152 yX5_setError cX5_setError 7 (some .int) 4 := ⟨gm_2 112 rfl rfl, in_X5, cd_X5_setError, ⟨by decide +kernel, by decide +kernel, by decide +kernel⟩, by decide⟩
set_option maxRecDepth 100000 in
theorem im_X5_setError : Cond.instanceMethod yX5_setError ∈ gt ∧ Cond.selects yX5_setError.cls yX5_setError yX5_setError ∈ gt := ⟨gm_2 114 rfl rfl, gm_0 12 rfl rfl⟩
set_option maxRecDepth 100000 in
theorem ml_X5_299 : xML RX5 299 yX0_fits cX0_fits 3 (some .boolean) 2 := ⟨gm_2 116 rfl rfl, in_X0, cd_X0_fits, ⟨by decide +kernel, by decide +kernel, by decide +kernel⟩, by decide⟩
set_option maxRecDepth 100000 in
theorem sm_X0_fits : Cond.static yX0_fits ∈ gt := gm_2 117 rfl rfl
set_option maxRecDepth 100000 in
theorem ml_X5_156 : xML RX5 156 yX0_passed cX0_passed 3 (some .long) 2 := ⟨gm_2 123 rfl rfl, in_X0, cd_X0_passed, ⟨by decide +kernel, by decide +kernel, by decide +kernel⟩, by decide⟩
set_option maxRecDepth 100000 in
theorem sm_X0_passed : Cond.static yX0_passed ∈ gt := gm_2 124 rfl rfl
set_option maxRecDepth 100000 in
theorem ml_X5_160 : xML RX5 160 yX2_hold cX2_hold 5 none 3 := ⟨gm_2 127 rfl rfl, in_X2, cd_X2_hold, ⟨by decide +kernel, by decide +kernel, by decide +kernel⟩, by decide⟩
set_option maxRecDepth 100000 in
theorem im_X2_hold : Cond.instanceMethod yX2_hold ∈ gt ∧ Cond.selects yX2_hold.cls yX2_hold yX2_hold ∈ gt := ⟨gm_2 128 rfl rfl, gm_2 129 rfl rfl⟩
set_option maxRecDepth 100000 in
theorem ml_X2_46 : xML RX2 46 yX0_widened cX0_widened 4 (some .long) 3 := ⟨gm_2 131 rfl rfl, in_X0, cd_X0_widened, ⟨by decide +kernel, by decide +kernel, by decide +kernel⟩, by decide⟩
set_option maxRecDepth 100000 in
theorem ml_L_51 : xML RL 51 yX5_usable cX5_usable 9 (some .int) 3 := ⟨gm_2 132 rfl rfl, in_X5, cd_X5_usable, ⟨by decide +kernel, by decide +kernel, by decide +kernel⟩, by decide⟩
set_option maxRecDepth 100000 in
theorem im_X5_usable : Cond.instanceMethod yX5_usable ∈ gt ∧ Cond.selects yX5_usable.cls yX5_usable yX5_usable ∈ gt := ⟨gm_2 133 rfl rfl, gm_2 134 rfl rfl⟩
set_option maxRecDepth 100000 in
theorem ml_L_56 : xML RL 56 yX5_look cX5_look 5 (some .long) 3 := ⟨gm_2 136 rfl rfl, in_X5, cd_X5_look, ⟨by decide +kernel, by decide +kernel, by decide +kernel⟩, by decide⟩
set_option maxRecDepth 100000 in
theorem im_X5_look : Cond.instanceMethod yX5_look ∈ gt ∧ Cond.selects yX5_look.cls yX5_look yX5_look ∈ gt := ⟨gm_2 137 rfl rfl, gm_2 138 rfl rfl⟩
set_option maxRecDepth 100000 in
theorem ml_L_60 : xML RL 60 yX5_put cX5_put 7 (some .int) 4 := ⟨gm_2 140 rfl rfl, in_X5, cd_X5_put, ⟨by decide +kernel, by decide +kernel, by decide +kernel⟩, by decide⟩
set_option maxRecDepth 100000 in
theorem im_X5_put : Cond.instanceMethod yX5_put ∈ gt ∧ Cond.selects yX5_put.cls yX5_put yX5_put ∈ gt := ⟨gm_2 141 rfl rfl, gm_2 142 rfl rfl⟩
set_option maxRecDepth 100000 in
theorem ml_X5_173 : xML RX5 173 yX5_putError cX5_putError 7 (some .int) 4 := ⟨gm_2 144 rfl rfl, in_X5, cd_X5_putError, ⟨by decide +kernel, by decide +kernel, by decide +kernel⟩, by decide⟩
set_option maxRecDepth 100000 in
theorem im_X5_putError : Cond.instanceMethod yX5_putError ∈ gt ∧ Cond.selects yX5_putError.cls yX5_putError yX5_putError ∈ gt := ⟨gm_2 146 rfl rfl, gm_0 13 rfl rfl⟩
set_option maxRecDepth 100000 in
theorem ml_X5_302 : xML RX5 302 yX5_isValue cX5_isValue 4 (some .boolean) 2 := ⟨gm_2 148 rfl rfl, in_X5, cd_X5_isValue, ⟨by decide +kernel, by decide +kernel, by decide +kernel⟩, by decide⟩
set_option maxRecDepth 100000 in
theorem im_X5_isValue : Cond.instanceMethod yX5_isValue ∈ gt ∧ Cond.selects yX5_isValue.cls yX5_isValue yX5_isValue ∈ gt := ⟨gm_2 150 rfl rfl, gm_0 14 rfl rfl⟩
set_option maxRecDepth 100000 in
theorem ml_X5_305 : xML RX5 305 yX5_accepts cX5_accepts 5 (some .boolean) 3 := ⟨gm_2 153 rfl rfl, in_X5, cd_X5_accepts, ⟨by decide +kernel, by decide +kernel, by decide +kernel⟩, by decide⟩
set_option maxRecDepth 100000 in
theorem im_X5_accepts : Cond.instanceMethod yX5_accepts ∈ gt ∧ Cond.selects yX5_accepts.cls yX5_accepts yX5_accepts ∈ gt := ⟨gm_2 155 rfl rfl, gm_0 15 rfl rfl⟩
set_option maxRecDepth 100000 in
theorem ml_L_64 : xML RL 64 yX5_swap cX5_swap 5 (some .int) 3 := ⟨gm_2 158 rfl rfl, in_X5, cd_X5_swap, ⟨by decide +kernel, by decide +kernel, by decide +kernel⟩, by decide⟩
set_option maxRecDepth 100000 in
theorem im_X5_swap : Cond.instanceMethod yX5_swap ∈ gt ∧ Cond.selects yX5_swap.cls yX5_swap yX5_swap ∈ gt := ⟨gm_2 159 rfl rfl, gm_2 160 rfl rfl⟩
set_option maxRecDepth 100000 in
theorem ml_X5_176 : xML RX5 176 yX2_exchange cX2_exchange 6 none 2 := ⟨gm_2 162 rfl rfl, in_X2, cd_X2_exchange, ⟨by decide +kernel, by decide +kernel, by decide +kernel⟩, by decide⟩
set_option maxRecDepth 100000 in
theorem im_X2_exchange : Cond.instanceMethod yX2_exchange ∈ gt ∧ Cond.selects yX2_exchange.cls yX2_exchange yX2_exchange ∈ gt := ⟨gm_2 163 rfl rfl, gm_2 164 rfl rfl⟩
set_option maxRecDepth 100000 in
theorem ml_L_68 : xML RL 68 yX5_went cX5_went 2 (some .int) 1 := ⟨gm_2 166 rfl rfl, in_X5, cd_X5_went, ⟨by decide +kernel, by decide +kernel, by decide +kernel⟩, by decide⟩
set_option maxRecDepth 100000 in
theorem im_X5_went : Cond.instanceMethod yX5_went ∈ gt ∧ Cond.selects yX5_went.cls yX5_went yX5_went ∈ gt := ⟨gm_2 167 rfl rfl, gm_2 168 rfl rfl⟩
set_option maxRecDepth 100000 in
theorem ml_L_72 : xML RL 72 yX5_carry cX5_carry 8 (some .int) 5 := ⟨gm_2 170 rfl rfl, in_X5, cd_X5_carry, ⟨by decide +kernel, by decide +kernel, by decide +kernel⟩, by decide⟩
set_option maxRecDepth 100000 in
theorem im_X5_carry : Cond.instanceMethod yX5_carry ∈ gt ∧ Cond.selects yX5_carry.cls yX5_carry yX5_carry ∈ gt := ⟨gm_2 171 rfl rfl, gm_2 172 rfl rfl⟩
set_option maxRecDepth 100000 in
theorem ml_X5_179 : xML RX5 179 yX5_arrayPairError cX5_arrayPairError 3 (some .int) 2 := ⟨gm_2 174 rfl rfl, in_X5, cd_X5_arrayPairError, ⟨by decide +kernel, by decide +kernel, by decide +kernel⟩, by decide⟩
set_option maxRecDepth 100000 in
theorem im_X5_arrayPairError : Cond.instanceMethod yX5_arrayPairError ∈ gt ∧ Cond.selects yX5_arrayPairError.cls yX5_arrayPairError yX5_arrayPairError ∈ gt := ⟨gm_2 176 rfl rfl, gm_0 16 rfl rfl⟩
set_option maxRecDepth 100000 in
theorem ml_X5_290 : xML RX5 290 yX5_firstError cX5_firstError 2 (some .int) 2 := ⟨gm_2 178 rfl rfl, in_X5, cd_X5_firstError, ⟨by decide +kernel, by decide +kernel, by decide +kernel⟩, by decide⟩
set_option maxRecDepth 100000 in
theorem sm_X5_firstError : Cond.static yX5_firstError ∈ gt := gm_2 179 rfl rfl
set_option maxRecDepth 100000 in
theorem mm_X5_293 : Cond.methodLink RX5 293 Lib.Math.max.name ∈ gt := gm_2 181 rfl rfl
set_option maxRecDepth 100000 in
theorem ml_X5_182 : xML RX5 182 yX5_carryError cX5_carryError 5 (some .int) 4 := ⟨gm_2 184 rfl rfl, in_X5, cd_X5_carryError, ⟨by decide +kernel, by decide +kernel, by decide +kernel⟩, by decide⟩
set_option maxRecDepth 100000 in
theorem im_X5_carryError : Cond.instanceMethod yX5_carryError ∈ gt ∧ Cond.selects yX5_carryError.cls yX5_carryError yX5_carryError ∈ gt := ⟨gm_2 186 rfl rfl, gm_0 17 rfl rfl⟩
set_option maxRecDepth 100000 in
theorem ml_L_77 : xML RL 77 yX5_convert cX5_convert 4 (some .int) 2 := ⟨gm_2 188 rfl rfl, in_X5, cd_X5_convert, ⟨by decide +kernel, by decide +kernel, by decide +kernel⟩, by decide⟩
set_option maxRecDepth 100000 in
theorem im_X5_convert : Cond.instanceMethod yX5_convert ∈ gt ∧ Cond.selects yX5_convert.cls yX5_convert yX5_convert ∈ gt := ⟨gm_2 189 rfl rfl, gm_2 190 rfl rfl⟩
set_option maxRecDepth 100000 in
theorem ml_X5_186 : xML RX5 186 yX5_keepConverted cX5_keepConverted 5 (some .int) 2 := ⟨gm_2 192 rfl rfl, in_X5, cd_X5_keepConverted, ⟨by decide +kernel, by decide +kernel, by decide +kernel⟩, by decide⟩
set_option maxRecDepth 100000 in
theorem im_X5_keepConverted : Cond.instanceMethod yX5_keepConverted ∈ gt ∧ Cond.selects yX5_keepConverted.cls yX5_keepConverted yX5_keepConverted ∈ gt := ⟨gm_2 194 rfl rfl, gm_0 18 rfl rfl⟩
set_option maxRecDepth 100000 in
theorem ml_L_82 : xML RL 82 yX5_shape cX5_shape 10 (some .int) 2 := ⟨gm_2 196 rfl rfl, in_X5, cd_X5_shape, ⟨by decide +kernel, by decide +kernel, by decide +kernel⟩, by decide⟩
set_option maxRecDepth 100000 in
theorem im_X5_shape : Cond.instanceMethod yX5_shape ∈ gt ∧ Cond.selects yX5_shape.cls yX5_shape yX5_shape ∈ gt := ⟨gm_2 197 rfl rfl, gm_2 198 rfl rfl⟩
set_option maxRecDepth 100000 in
theorem ml_X5_190 : xML RX5 190 yX5_shapeError cX5_shapeError 4 (some .int) 2 := ⟨gm_2 200 rfl rfl, in_X5, cd_X5_shapeError, ⟨by decide +kernel, by decide +kernel, by decide +kernel⟩, by decide⟩
set_option maxRecDepth 100000 in
theorem im_X5_shapeError : Cond.instanceMethod yX5_shapeError ∈ gt ∧ Cond.selects yX5_shapeError.cls yX5_shapeError yX5_shapeError ∈ gt := ⟨gm_2 202 rfl rfl, gm_0 19 rfl rfl⟩
set_option maxRecDepth 100000 in
theorem mm_X5_193 : Cond.methodLink RX5 193 Lib.Math.min.name ∈ gt := gm_2 204 rfl rfl
set_option maxRecDepth 100000 in
theorem ml_X5_198 : xML RX5 198 yX5_kindInSchema cX5_kindInSchema 2 (some .int) 2 := ⟨gm_2 205 rfl rfl, in_X5, cd_X5_kindInSchema, ⟨by decide +kernel, by decide +kernel, by decide +kernel⟩, by decide⟩
set_option maxRecDepth 100000 in
theorem sm_X5_kindInSchema : Cond.static yX5_kindInSchema ∈ gt := gm_2 206 rfl rfl
set_option maxRecDepth 100000 in
theorem ml_X5_277 : xML RX5 277 yX5_kindNamed cX5_kindNamed 3 (some .int) 1 := ⟨gm_2 208 rfl rfl, in_X5, cd_X5_kindNamed, ⟨by decide +kernel, by decide +kernel, by decide +kernel⟩, by decide⟩
set_option maxRecDepth 100000 in
theorem sm_X5_kindNamed : Cond.static yX5_kindNamed ∈ gt := gm_2 209 rfl rfl
set_option maxRecDepth 100000 in
theorem ml_L_86 : xML RL 86 yX5_sum cX5_sum 5 (some .long) 2 := ⟨gm_2 213 rfl rfl, in_X5, cd_X5_sum, ⟨by decide +kernel, by decide +kernel, by decide +kernel⟩, by decide⟩
set_option maxRecDepth 100000 in
theorem im_X5_sum : Cond.instanceMethod yX5_sum ∈ gt ∧ Cond.selects yX5_sum.cls yX5_sum yX5_sum ∈ gt := ⟨gm_2 214 rfl rfl, gm_2 215 rfl rfl⟩
set_option maxRecDepth 100000 in
theorem ml_X5_204 : xML RX5 204 yX5_wholeSum cX5_wholeSum 5 (some .long) 2 := ⟨gm_2 217 rfl rfl, in_X5, cd_X5_wholeSum, ⟨by decide +kernel, by decide +kernel, by decide +kernel⟩, by decide⟩
set_option maxRecDepth 100000 in
theorem sm_X5_wholeSum : Cond.static yX5_wholeSum ∈ gt := gm_2 218 rfl rfl
set_option maxRecDepth 100000 in
theorem ml_X5_208 : xML RX5 208 yX5_floatSum cX5_floatSum 3 (some .long) 1 := ⟨gm_2 220 rfl rfl, in_X5, cd_X5_floatSum, ⟨by decide +kernel, by decide +kernel, by decide +kernel⟩, by decide⟩
set_option maxRecDepth 100000 in
theorem sm_X5_floatSum : Cond.static yX5_floatSum ∈ gt := gm_2 221 rfl rfl
set_option maxRecDepth 100000 in
theorem ml_X5_326 : xML RX5 326 yX0_real cX0_real 7 (some .double) 2 := ⟨gm_2 223 rfl rfl, in_X0, cd_X0_real, ⟨by decide +kernel, by decide +kernel, by decide +kernel⟩, by decide⟩
set_option maxRecDepth 100000 in
theorem ml_X5_330 : xML RX5 330 yX0_bitsOf cX0_bitsOf 8 (some .long) 2 := ⟨gm_2 224 rfl rfl, in_X0, cd_X0_bitsOf, ⟨by decide +kernel, by decide +kernel, by decide +kernel⟩, by decide⟩
set_option maxRecDepth 100000 in
theorem ml_X5_212 : xML RX5 212 yX5_doubleSum cX5_doubleSum 4 (some .long) 1 := ⟨gm_2 225 rfl rfl, in_X5, cd_X5_doubleSum, ⟨by decide +kernel, by decide +kernel, by decide +kernel⟩, by decide⟩
set_option maxRecDepth 100000 in
theorem sm_X5_doubleSum : Cond.static yX5_doubleSum ∈ gt := gm_2 226 rfl rfl
set_option maxRecDepth 100000 in
theorem ml_L_91 : xML RL 91 yX5_mode cX5_mode 3 (some .int) 1 := ⟨gm_2 228 rfl rfl, in_X5, cd_X5_mode, ⟨by decide +kernel, by decide +kernel, by decide +kernel⟩, by decide⟩
set_option maxRecDepth 100000 in
theorem im_X5_mode : Cond.instanceMethod yX5_mode ∈ gt ∧ Cond.selects yX5_mode.cls yX5_mode yX5_mode ∈ gt := ⟨gm_2 229 rfl rfl, gm_2 230 rfl rfl⟩
set_option maxRecDepth 100000 in
theorem ml_X5_215 : xML RX5 215 yX5_isMode cX5_isMode 1 (some .boolean) 1 := ⟨gm_2 232 rfl rfl, in_X5, cd_X5_isMode, ⟨by decide +kernel, by decide +kernel, by decide +kernel⟩, by decide⟩
set_option maxRecDepth 100000 in
theorem sm_X5_isMode : Cond.static yX5_isMode ∈ gt := gm_2 233 rfl rfl
set_option maxRecDepth 100000 in
theorem ml_L_95 : xML RL 95 yX5_lay cX5_lay 3 (some .int) 1 := ⟨gm_2 235 rfl rfl, in_X5, cd_X5_lay, ⟨by decide +kernel, by decide +kernel, by decide +kernel⟩, by decide⟩
set_option maxRecDepth 100000 in
theorem im_X5_lay : Cond.instanceMethod yX5_lay ∈ gt ∧ Cond.selects yX5_lay.cls yX5_lay yX5_lay ∈ gt := ⟨gm_2 236 rfl rfl, gm_2 237 rfl rfl⟩
set_option maxRecDepth 100000 in
theorem ml_X5_219 : xML RX5 219 yX4_write cX4_write 4 none 2 := ⟨gm_2 239 rfl rfl, in_X4, cd_X4_write, ⟨by decide +kernel, by decide +kernel, by decide +kernel⟩, by decide⟩
set_option maxRecDepth 100000 in
theorem im_X4_write : Cond.instanceMethod yX4_write ∈ gt ∧ Cond.selects yX4_write.cls yX4_write yX4_write ∈ gt := ⟨gm_3 0 rfl rfl, gm_3 1 rfl rfl⟩
set_option maxRecDepth 100000 in
theorem ml_X4_35 : xML RX4 35 yX2_isArray cX2_isArray 1 (some .boolean) 0 := ⟨gm_3 3 rfl rfl, in_X2, cd_X2_isArray, ⟨by decide +kernel, by decide +kernel, by decide +kernel⟩, by decide⟩
set_option maxRecDepth 100000 in
theorem ml_X4_41 : xML RX4 41 yX4_writeArray cX4_writeArray 3 none 1 := ⟨gm_3 4 rfl rfl, in_X4, cd_X4_writeArray, ⟨by decide +kernel, by decide +kernel, by decide +kernel⟩, by decide⟩
set_option maxRecDepth 100000 in
theorem im_X4_writeArray : Cond.instanceMethod yX4_writeArray ∈ gt ∧ Cond.selects yX4_writeArray.cls yX4_writeArray yX4_writeArray ∈ gt := ⟨gm_3 6 rfl rfl, gm_0 20 rfl rfl⟩
set_option maxRecDepth 100000 in
theorem ml_X4_56 : xML RX4 56 yX3_add cX3_add 2 none 1 := ⟨gm_3 8 rfl rfl, in_X3, cd_X3_add, ⟨by decide +kernel, by decide +kernel, by decide +kernel⟩, by decide⟩
set_option maxRecDepth 100000 in
theorem im_X3_add : Cond.instanceMethod yX3_add ∈ gt ∧ Cond.selects yX3_add.cls yX3_add yX3_add ∈ gt := ⟨gm_3 9 rfl rfl, gm_3 10 rfl rfl⟩
set_option maxRecDepth 100000 in
theorem ml_X4_59 : xML RX4 59 yX2_isPrimitive cX2_isPrimitive 1 (some .boolean) 0 := ⟨gm_3 12 rfl rfl, in_X2, cd_X2_isPrimitive, ⟨by decide +kernel, by decide +kernel, by decide +kernel⟩, by decide⟩
set_option maxRecDepth 100000 in
theorem ml_X4_62 : xML RX4 62 yX4_writePrimitive cX4_writePrimitive 4 none 1 := ⟨gm_3 13 rfl rfl, in_X4, cd_X4_writePrimitive, ⟨by decide +kernel, by decide +kernel, by decide +kernel⟩, by decide⟩
set_option maxRecDepth 100000 in
theorem im_X4_writePrimitive : Cond.instanceMethod yX4_writePrimitive ∈ gt ∧ Cond.selects yX4_writePrimitive.cls yX4_writePrimitive yX4_writePrimitive ∈ gt := ⟨gm_3 15 rfl rfl, gm_0 21 rfl rfl⟩
set_option maxRecDepth 100000 in
theorem ml_X4_69 : xML RX4 69 yX4_writeHead cX4_writeHead 3 none 2 := ⟨gm_3 17 rfl rfl, in_X4, cd_X4_writeHead, ⟨by decide +kernel, by decide +kernel, by decide +kernel⟩, by decide⟩
set_option maxRecDepth 100000 in
theorem im_X4_writeHead : Cond.instanceMethod yX4_writeHead ∈ gt ∧ Cond.selects yX4_writeHead.cls yX4_writeHead yX4_writeHead ∈ gt := ⟨gm_3 19 rfl rfl, gm_0 22 rfl rfl⟩
set_option maxRecDepth 100000 in
theorem ml_X4_96 : xML RX4 96 yX4_writeRuns cX4_writeRuns 4 none 1 := ⟨gm_3 21 rfl rfl, in_X4, cd_X4_writeRuns, ⟨by decide +kernel, by decide +kernel, by decide +kernel⟩, by decide⟩
set_option maxRecDepth 100000 in
theorem im_X4_writeRuns : Cond.instanceMethod yX4_writeRuns ∈ gt ∧ Cond.selects yX4_writeRuns.cls yX4_writeRuns yX4_writeRuns ∈ gt := ⟨gm_3 23 rfl rfl, gm_0 23 rfl rfl⟩
set_option maxRecDepth 100000 in
theorem ml_X4_87 : xML RX4 87 yX4_writeNumber cX4_writeNumber 8 none 2 := ⟨gm_3 25 rfl rfl, in_X4, cd_X4_writeNumber, ⟨by decide +kernel, by decide +kernel, by decide +kernel⟩, by decide⟩
set_option maxRecDepth 100000 in
theorem im_X4_writeNumber : Cond.instanceMethod yX4_writeNumber ∈ gt ∧ Cond.selects yX4_writeNumber.cls yX4_writeNumber yX4_writeNumber ∈ gt := ⟨gm_3 27 rfl rfl, gm_0 24 rfl rfl⟩
set_option maxRecDepth 100000 in
theorem ml_X4_112 : xML RX4 112 yX0_powerPart cX0_powerPart 5 (some .int) 2 := ⟨gm_3 29 rfl rfl, in_X0, cd_X0_powerPart, ⟨by decide +kernel, by decide +kernel, by decide +kernel⟩, by decide⟩
set_option maxRecDepth 100000 in
theorem ml_X4_116 : xML RX4 116 yX0_oddPart cX0_oddPart 9 (some .long) 2 := ⟨gm_3 30 rfl rfl, in_X0, cd_X0_oddPart, ⟨by decide +kernel, by decide +kernel, by decide +kernel⟩, by decide⟩
set_option maxRecDepth 100000 in
theorem ml_X4_99 : xML RX4 99 yX4_writeSteps cX4_writeSteps 5 none 1 := ⟨gm_3 33 rfl rfl, in_X4, cd_X4_writeSteps, ⟨by decide +kernel, by decide +kernel, by decide +kernel⟩, by decide⟩
set_option maxRecDepth 100000 in
theorem im_X4_writeSteps : Cond.instanceMethod yX4_writeSteps ∈ gt ∧ Cond.selects yX4_writeSteps.cls yX4_writeSteps yX4_writeSteps ∈ gt := ⟨gm_3 35 rfl rfl, gm_0 25 rfl rfl⟩
set_option maxRecDepth 100000 in
theorem ml_X4_105 : xML RX4 105 yX4_writeStep cX4_writeStep 6 none 1 := ⟨gm_3 37 rfl rfl, in_X4, cd_X4_writeStep, ⟨by decide +kernel, by decide +kernel, by decide +kernel⟩, by decide⟩
set_option maxRecDepth 100000 in
theorem im_X4_writeStep : Cond.instanceMethod yX4_writeStep ∈ gt ∧ Cond.selects yX4_writeStep.cls yX4_writeStep yX4_writeStep ∈ gt := ⟨gm_3 39 rfl rfl, gm_0 26 rfl rfl⟩
set_option maxRecDepth 100000 in
theorem ml_X4_102 : xML RX4 102 yX4_writeFlat cX4_writeFlat 3 none 1 := ⟨gm_3 43 rfl rfl, in_X4, cd_X4_writeFlat, ⟨by decide +kernel, by decide +kernel, by decide +kernel⟩, by decide⟩
set_option maxRecDepth 100000 in
theorem im_X4_writeFlat : Cond.instanceMethod yX4_writeFlat ∈ gt ∧ Cond.selects yX4_writeFlat.cls yX4_writeFlat yX4_writeFlat ∈ gt := ⟨gm_3 45 rfl rfl, gm_0 27 rfl rfl⟩
set_option maxRecDepth 100000 in
theorem ml_X4_66 : xML RX4 66 yX4_writeObjects cX4_writeObjects 3 none 1 := ⟨gm_3 47 rfl rfl, in_X4, cd_X4_writeObjects, ⟨by decide +kernel, by decide +kernel, by decide +kernel⟩, by decide⟩
set_option maxRecDepth 100000 in
theorem im_X4_writeObjects : Cond.instanceMethod yX4_writeObjects ∈ gt ∧ Cond.selects yX4_writeObjects.cls yX4_writeObjects yX4_writeObjects ∈ gt := ⟨gm_3 49 rfl rfl, gm_0 28 rfl rfl⟩
set_option maxRecDepth 100000 in
theorem ml_X4_52 : xML RX4 52 yX4_writeTagged cX4_writeTagged 4 none 2 := ⟨gm_3 51 rfl rfl, in_X4, cd_X4_writeTagged, ⟨by decide +kernel, by decide +kernel, by decide +kernel⟩, by decide⟩
set_option maxRecDepth 100000 in
theorem im_X4_writeTagged : Cond.instanceMethod yX4_writeTagged ∈ gt ∧ Cond.selects yX4_writeTagged.cls yX4_writeTagged yX4_writeTagged ∈ gt := ⟨gm_3 53 rfl rfl, gm_0 29 rfl rfl⟩
set_option maxRecDepth 100000 in
theorem ml_X4_77 : xML RX4 77 yX4_writeLetters cX4_writeLetters 6 none 1 := ⟨gm_3 55 rfl rfl, in_X4, cd_X4_writeLetters, ⟨by decide +kernel, by decide +kernel, by decide +kernel⟩, by decide⟩
set_option maxRecDepth 100000 in
theorem im_X4_writeLetters : Cond.instanceMethod yX4_writeLetters ∈ gt ∧ Cond.selects yX4_writeLetters.cls yX4_writeLetters yX4_writeLetters ∈ gt := ⟨gm_3 57 rfl rfl, gm_0 30 rfl rfl⟩
set_option maxRecDepth 100000 in
theorem ml_X4_92 : xML RX4 92 yX4_letterOf cX4_letterOf 6 (some .int) 2 := ⟨gm_3 60 rfl rfl, in_X4, cd_X4_letterOf, ⟨by decide +kernel, by decide +kernel, by decide +kernel⟩, by decide⟩
set_option maxRecDepth 100000 in
theorem sm_X4_letterOf : Cond.static yX4_letterOf ∈ gt := gm_3 61 rfl rfl
set_option maxRecDepth 100000 in
theorem ml_X4_81 : xML RX4 81 yX0_isKind cX0_isKind 1 (some .boolean) 1 := ⟨gm_3 63 rfl rfl, in_X0, cd_X0_isKind, ⟨by decide +kernel, by decide +kernel, by decide +kernel⟩, by decide⟩
set_option maxRecDepth 100000 in
theorem ml_X5_222 : xML RX5 222 yX3_append cX3_append 2 (some .boolean) 1 := ⟨gm_3 64 rfl rfl, in_X3, cd_X3_append, ⟨by decide +kernel, by decide +kernel, by decide +kernel⟩, by decide⟩
set_option maxRecDepth 100000 in
theorem im_X3_append : Cond.instanceMethod yX3_append ∈ gt ∧ Cond.selects yX3_append.cls yX3_append yX3_append ∈ gt := ⟨gm_3 65 rfl rfl, gm_3 66 rfl rfl⟩
set_option maxRecDepth 100000 in
theorem ac_X3_23 : Cond.methodLink RX3 23 arraycopyName ∈ gt := gm_3 68 rfl rfl
set_option maxRecDepth 100000 in
theorem ml_L_99 : xML RL 99 yX5_tape cX5_tape 2 (some .int) 1 := ⟨gm_3 69 rfl rfl, in_X5, cd_X5_tape, ⟨by decide +kernel, by decide +kernel, by decide +kernel⟩, by decide⟩
set_option maxRecDepth 100000 in
theorem im_X5_tape : Cond.instanceMethod yX5_tape ∈ gt ∧ Cond.selects yX5_tape.cls yX5_tape yX5_tape ∈ gt := ⟨gm_3 70 rfl rfl, gm_3 71 rfl rfl⟩
set_option maxRecDepth 100000 in
theorem ml_X5_227 : xML RX5 227 yX3_has cX3_has 2 (some .boolean) 1 := ⟨gm_3 73 rfl rfl, in_X3, cd_X3_has, ⟨by decide +kernel, by decide +kernel, by decide +kernel⟩, by decide⟩
set_option maxRecDepth 100000 in
theorem im_X3_has : Cond.instanceMethod yX3_has ∈ gt ∧ Cond.selects yX3_has.cls yX3_has yX3_has ∈ gt := ⟨gm_3 74 rfl rfl, gm_3 75 rfl rfl⟩
set_option maxRecDepth 100000 in
theorem ml_X5_229 : xML RX5 229 yX3_at cX3_at 2 (some .int) 1 := ⟨gm_3 77 rfl rfl, in_X3, cd_X3_at, ⟨by decide +kernel, by decide +kernel, by decide +kernel⟩, by decide⟩
set_option maxRecDepth 100000 in
theorem im_X3_at : Cond.instanceMethod yX3_at ∈ gt ∧ Cond.selects yX3_at.cls yX3_at yX3_at ∈ gt := ⟨gm_3 78 rfl rfl, gm_3 79 rfl rfl⟩
set_option maxRecDepth 100000 in
theorem ml_L_103 : xML RL 103 yX5_poke cX5_poke 4 (some .int) 2 := ⟨gm_3 81 rfl rfl, in_X5, cd_X5_poke, ⟨by decide +kernel, by decide +kernel, by decide +kernel⟩, by decide⟩
set_option maxRecDepth 100000 in
theorem im_X5_poke : Cond.instanceMethod yX5_poke ∈ gt ∧ Cond.selects yX5_poke.cls yX5_poke yX5_poke ∈ gt := ⟨gm_3 82 rfl rfl, gm_3 83 rfl rfl⟩
set_option maxRecDepth 100000 in
theorem ml_X5_232 : xML RX5 232 yX3_add cX3_add 2 none 1 := ⟨gm_3 85 rfl rfl, in_X3, cd_X3_add, ⟨by decide +kernel, by decide +kernel, by decide +kernel⟩, by decide⟩
set_option maxRecDepth 100000 in
theorem ml_X5_235 : xML RX5 235 yX3_replace cX3_replace 3 none 2 := ⟨gm_3 86 rfl rfl, in_X3, cd_X3_replace, ⟨by decide +kernel, by decide +kernel, by decide +kernel⟩, by decide⟩
set_option maxRecDepth 100000 in
theorem im_X3_replace : Cond.instanceMethod yX3_replace ∈ gt ∧ Cond.selects yX3_replace.cls yX3_replace yX3_replace ∈ gt := ⟨gm_3 87 rfl rfl, gm_3 88 rfl rfl⟩
set_option maxRecDepth 100000 in
theorem ml_X3_19 : xML RX3 19 yX3_has cX3_has 2 (some .boolean) 1 := ⟨gm_3 90 rfl rfl, in_X3, cd_X3_has, ⟨by decide +kernel, by decide +kernel, by decide +kernel⟩, by decide⟩
set_option maxRecDepth 100000 in
theorem ml_L_107 : xML RL 107 yX5_cut cX5_cut 3 (some .int) 1 := ⟨gm_3 91 rfl rfl, in_X5, cd_X5_cut, ⟨by decide +kernel, by decide +kernel, by decide +kernel⟩, by decide⟩
set_option maxRecDepth 100000 in
theorem im_X5_cut : Cond.instanceMethod yX5_cut ∈ gt ∧ Cond.selects yX5_cut.cls yX5_cut yX5_cut ∈ gt := ⟨gm_3 92 rfl rfl, gm_3 93 rfl rfl⟩
set_option maxRecDepth 100000 in
theorem ml_L_111 : xML RL 111 yX5_seek cX5_seek 3 (some .int) 1 := ⟨gm_3 95 rfl rfl, in_X5, cd_X5_seek, ⟨by decide +kernel, by decide +kernel, by decide +kernel⟩, by decide⟩
set_option maxRecDepth 100000 in
theorem im_X5_seek : Cond.instanceMethod yX5_seek ∈ gt ∧ Cond.selects yX5_seek.cls yX5_seek yX5_seek ∈ gt := ⟨gm_3 96 rfl rfl, gm_3 97 rfl rfl⟩
set_option maxRecDepth 100000 in
theorem ml_L_115 : xML RL 115 yX5_read cX5_read 3 (some .int) 0 := ⟨gm_3 99 rfl rfl, in_X5, cd_X5_read, ⟨by decide +kernel, by decide +kernel, by decide +kernel⟩, by decide⟩
set_option maxRecDepth 100000 in
theorem im_X5_read : Cond.instanceMethod yX5_read ∈ gt ∧ Cond.selects yX5_read.cls yX5_read yX5_read ∈ gt := ⟨gm_3 100 rfl rfl, gm_3 101 rfl rfl⟩
set_option maxRecDepth 100000 in
theorem ml_X5_238 : xML RX5 238 yX1_takeItem cX1_takeItem 5 (some .boolean) 2 := ⟨gm_3 103 rfl rfl, in_X1, cd_X1_takeItem, ⟨by decide +kernel, by decide +kernel, by decide +kernel⟩, by decide⟩
set_option maxRecDepth 100000 in
theorem im_X1_takeItem : Cond.instanceMethod yX1_takeItem ∈ gt ∧ Cond.selects yX1_takeItem.cls yX1_takeItem yX1_takeItem ∈ gt := ⟨gm_3 104 rfl rfl, gm_3 105 rfl rfl⟩
set_option maxRecDepth 100000 in
theorem ml_X1_36 : xML RX1 36 yX3_at cX3_at 2 (some .int) 1 := ⟨gm_3 107 rfl rfl, in_X3, cd_X3_at, ⟨by decide +kernel, by decide +kernel, by decide +kernel⟩, by decide⟩
set_option maxRecDepth 100000 in
theorem ml_X1_42 : xML RX1 42 yX1_isArrayTag cX1_isArrayTag 1 (some .boolean) 1 := ⟨gm_3 108 rfl rfl, in_X1, cd_X1_isArrayTag, ⟨by decide +kernel, by decide +kernel, by decide +kernel⟩, by decide⟩
set_option maxRecDepth 100000 in
theorem sm_X1_isArrayTag : Cond.static yX1_isArrayTag ∈ gt := gm_3 109 rfl rfl
set_option maxRecDepth 100000 in
theorem ml_X1_46 : xML RX1 46 yX1_takeArray cX1_takeArray 4 (some .boolean) 1 := ⟨gm_3 111 rfl rfl, in_X1, cd_X1_takeArray, ⟨by decide +kernel, by decide +kernel, by decide +kernel⟩, by decide⟩
set_option maxRecDepth 100000 in
theorem im_X1_takeArray : Cond.instanceMethod yX1_takeArray ∈ gt ∧ Cond.selects yX1_takeArray.cls yX1_takeArray yX1_takeArray ∈ gt := ⟨gm_3 113 rfl rfl, gm_0 31 rfl rfl⟩
set_option maxRecDepth 100000 in
theorem ml_X1_49 : xML RX1 49 yX1_failAt cX1_failAt 2 (some .boolean) 1 := ⟨gm_3 115 rfl rfl, in_X1, cd_X1_failAt, ⟨by decide +kernel, by decide +kernel, by decide +kernel⟩, by decide⟩
set_option maxRecDepth 100000 in
theorem im_X1_failAt : Cond.instanceMethod yX1_failAt ∈ gt ∧ Cond.selects yX1_failAt.cls yX1_failAt yX1_failAt ∈ gt := ⟨gm_3 117 rfl rfl, gm_0 32 rfl rfl⟩
set_option maxRecDepth 100000 in
theorem ml_X1_63 : xML RX1 63 yX2_beArray cX2_beArray 5 none 2 := ⟨gm_3 119 rfl rfl, in_X2, cd_X2_beArray, ⟨by decide +kernel, by decide +kernel, by decide +kernel⟩, by decide⟩
set_option maxRecDepth 100000 in
theorem ml_X1_67 : xML RX1 67 yX1_takeRuns cX1_takeRuns 4 (some .boolean) 1 := ⟨gm_3 120 rfl rfl, in_X1, cd_X1_takeRuns, ⟨by decide +kernel, by decide +kernel, by decide +kernel⟩, by decide⟩
set_option maxRecDepth 100000 in
theorem im_X1_takeRuns : Cond.instanceMethod yX1_takeRuns ∈ gt ∧ Cond.selects yX1_takeRuns.cls yX1_takeRuns yX1_takeRuns ∈ gt := ⟨gm_3 122 rfl rfl, gm_0 33 rfl rfl⟩
set_option maxRecDepth 100000 in
theorem ml_X1_103 : xML RX1 103 yX1_takeNumber cX1_takeNumber 8 (some .boolean) 1 := ⟨gm_3 124 rfl rfl, in_X1, cd_X1_takeNumber, ⟨by decide +kernel, by decide +kernel, by decide +kernel⟩, by decide⟩
set_option maxRecDepth 100000 in
theorem im_X1_takeNumber : Cond.instanceMethod yX1_takeNumber ∈ gt ∧ Cond.selects yX1_takeNumber.cls yX1_takeNumber yX1_takeNumber ∈ gt := ⟨gm_3 126 rfl rfl, gm_0 34 rfl rfl⟩
set_option maxRecDepth 100000 in
theorem ml_X1_126 : xML RX1 126 yX1_signedAt cX1_signedAt 6 (some .long) 2 := ⟨gm_3 129 rfl rfl, in_X1, cd_X1_signedAt, ⟨by decide +kernel, by decide +kernel, by decide +kernel⟩, by decide⟩
set_option maxRecDepth 100000 in
theorem im_X1_signedAt : Cond.instanceMethod yX1_signedAt ∈ gt ∧ Cond.selects yX1_signedAt.cls yX1_signedAt yX1_signedAt ∈ gt := ⟨gm_3 131 rfl rfl, gm_0 35 rfl rfl⟩
set_option maxRecDepth 100000 in
theorem ml_X1_132 : xML RX1 132 yX1_isScaled cX1_isScaled 7 (some .boolean) 3 := ⟨gm_3 135 rfl rfl, in_X1, cd_X1_isScaled, ⟨by decide +kernel, by decide +kernel, by decide +kernel⟩, by decide⟩
set_option maxRecDepth 100000 in
theorem sm_X1_isScaled : Cond.static yX1_isScaled ∈ gt := gm_3 136 rfl rfl
set_option maxRecDepth 100000 in
theorem ml_X1_140 : xML RX1 140 yJ13_numberOfLeadingZeros_95d88 cJ13_numberOfLeadingZeros_95d88 3 (some .int) 1 := ⟨gm_3 138 rfl rfl, in_J13, cd_J13_numberOfLeadingZeros_95d88, ⟨by decide +kernel, by decide +kernel, by decide +kernel⟩, by decide⟩
set_option maxRecDepth 100000 in
theorem ml_X1_115 : xML RX1 115 yX0_fits cX0_fits 3 (some .boolean) 2 := ⟨gm_3 139 rfl rfl, in_X0, cd_X0_fits, ⟨by decide +kernel, by decide +kernel, by decide +kernel⟩, by decide⟩
set_option maxRecDepth 100000 in
theorem ml_X1_136 : xML RX1 136 yX0_scaledBits cX0_scaledBits 12 (some .long) 3 := ⟨gm_3 140 rfl rfl, in_X0, cd_X0_scaledBits, ⟨by decide +kernel, by decide +kernel, by decide +kernel⟩, by decide⟩
set_option maxRecDepth 100000 in
theorem ml_X1_96 : xML RX1 96 yX2_fill cX2_fill 5 none 3 := ⟨gm_3 141 rfl rfl, in_X2, cd_X2_fill, ⟨by decide +kernel, by decide +kernel, by decide +kernel⟩, by decide⟩
set_option maxRecDepth 100000 in
theorem ml_X1_71 : xML RX1 71 yX1_takeSteps cX1_takeSteps 6 (some .boolean) 1 := ⟨gm_3 142 rfl rfl, in_X1, cd_X1_takeSteps, ⟨by decide +kernel, by decide +kernel, by decide +kernel⟩, by decide⟩
set_option maxRecDepth 100000 in
theorem im_X1_takeSteps : Cond.instanceMethod yX1_takeSteps ∈ gt ∧ Cond.selects yX1_takeSteps.cls yX1_takeSteps yX1_takeSteps ∈ gt := ⟨gm_3 144 rfl rfl, gm_0 36 rfl rfl⟩
set_option maxRecDepth 100000 in
theorem ml_X1_112 : xML RX1 112 yX1_takeStep cX1_takeStep 5 (some .boolean) 0 := ⟨gm_3 146 rfl rfl, in_X1, cd_X1_takeStep, ⟨by decide +kernel, by decide +kernel, by decide +kernel⟩, by decide⟩
set_option maxRecDepth 100000 in
theorem im_X1_takeStep : Cond.instanceMethod yX1_takeStep ∈ gt ∧ Cond.selects yX1_takeStep.cls yX1_takeStep yX1_takeStep ∈ gt := ⟨gm_3 148 rfl rfl, gm_0 37 rfl rfl⟩
set_option maxRecDepth 100000 in
theorem ml_X1_74 : xML RX1 74 yX2_isPrimitive cX2_isPrimitive 1 (some .boolean) 0 := ⟨gm_3 150 rfl rfl, in_X2, cd_X2_isPrimitive, ⟨by decide +kernel, by decide +kernel, by decide +kernel⟩, by decide⟩
set_option maxRecDepth 100000 in
theorem ml_X1_77 : xML RX1 77 yX1_takeFlat cX1_takeFlat 3 (some .boolean) 1 := ⟨gm_3 151 rfl rfl, in_X1, cd_X1_takeFlat, ⟨by decide +kernel, by decide +kernel, by decide +kernel⟩, by decide⟩
set_option maxRecDepth 100000 in
theorem im_X1_takeFlat : Cond.instanceMethod yX1_takeFlat ∈ gt ∧ Cond.selects yX1_takeFlat.cls yX1_takeFlat yX1_takeFlat ∈ gt := ⟨gm_3 153 rfl rfl, gm_0 38 rfl rfl⟩
set_option maxRecDepth 100000 in
theorem ml_X1_80 : xML RX1 80 yX1_takeObjects cX1_takeObjects 6 (some .boolean) 1 := ⟨gm_3 155 rfl rfl, in_X1, cd_X1_takeObjects, ⟨by decide +kernel, by decide +kernel, by decide +kernel⟩, by decide⟩
set_option maxRecDepth 100000 in
theorem im_X1_takeObjects : Cond.instanceMethod yX1_takeObjects ∈ gt ∧ Cond.selects yX1_takeObjects.cls yX1_takeObjects yX1_takeObjects ∈ gt := ⟨gm_3 157 rfl rfl, gm_0 39 rfl rfl⟩
set_option maxRecDepth 100000 in
theorem ml_X1_89 : xML RX1 89 yX1_mayStand cX1_mayStand 2 (some .boolean) 2 := ⟨gm_3 159 rfl rfl, in_X1, cd_X1_mayStand, ⟨by decide +kernel, by decide +kernel, by decide +kernel⟩, by decide⟩
set_option maxRecDepth 100000 in
theorem sm_X1_mayStand : Cond.static yX1_mayStand ∈ gt := gm_3 160 rfl rfl
set_option maxRecDepth 100000 in
theorem ml_X1_93 : xML RX1 93 yX1_takeElement cX1_takeElement 3 (some .boolean) 2 := ⟨gm_3 162 rfl rfl, in_X1, cd_X1_takeElement, ⟨by decide +kernel, by decide +kernel, by decide +kernel⟩, by decide⟩
set_option maxRecDepth 100000 in
theorem im_X1_takeElement : Cond.instanceMethod yX1_takeElement ∈ gt ∧ Cond.selects yX1_takeElement.cls yX1_takeElement yX1_takeElement ∈ gt := ⟨gm_3 164 rfl rfl, gm_0 40 rfl rfl⟩
set_option maxRecDepth 100000 in
theorem ml_X1_52 : xML RX1 52 yX1_takeWord cX1_takeWord 4 (some .boolean) 0 := ⟨gm_3 166 rfl rfl, in_X1, cd_X1_takeWord, ⟨by decide +kernel, by decide +kernel, by decide +kernel⟩, by decide⟩
set_option maxRecDepth 100000 in
theorem im_X1_takeWord : Cond.instanceMethod yX1_takeWord ∈ gt ∧ Cond.selects yX1_takeWord.cls yX1_takeWord yX1_takeWord ∈ gt := ⟨gm_3 168 rfl rfl, gm_0 41 rfl rfl⟩
set_option maxRecDepth 100000 in
theorem ml_X1_56 : xML RX1 56 yX1_takeBead cX1_takeBead 2 (some .boolean) 1 := ⟨gm_3 172 rfl rfl, in_X1, cd_X1_takeBead, ⟨by decide +kernel, by decide +kernel, by decide +kernel⟩, by decide⟩
set_option maxRecDepth 100000 in
theorem im_X1_takeBead : Cond.instanceMethod yX1_takeBead ∈ gt ∧ Cond.selects yX1_takeBead.cls yX1_takeBead yX1_takeBead ∈ gt := ⟨gm_3 174 rfl rfl, gm_0 42 rfl rfl⟩
set_option maxRecDepth 100000 in
theorem ml_X1_100 : xML RX1 100 yX1_takeBackLink cX1_takeBackLink 3 (some .boolean) 1 := ⟨gm_3 177 rfl rfl, in_X1, cd_X1_takeBackLink, ⟨by decide +kernel, by decide +kernel, by decide +kernel⟩, by decide⟩
set_option maxRecDepth 100000 in
theorem im_X1_takeBackLink : Cond.instanceMethod yX1_takeBackLink ∈ gt ∧ Cond.selects yX1_takeBackLink.cls yX1_takeBackLink yX1_takeBackLink ∈ gt := ⟨gm_3 179 rfl rfl, gm_0 43 rfl rfl⟩
set_option maxRecDepth 100000 in
theorem ml_X1_59 : xML RX1 59 yX2_beThing cX2_beThing 4 none 2 := ⟨gm_3 181 rfl rfl, in_X2, cd_X2_beThing, ⟨by decide +kernel, by decide +kernel, by decide +kernel⟩, by decide⟩
set_option maxRecDepth 100000 in
theorem ml_X5_248 : xML RX5 248 yX5_settle cX5_settle 3 (some .int) 0 := ⟨gm_3 182 rfl rfl, in_X5, cd_X5_settle, ⟨by decide +kernel, by decide +kernel, by decide +kernel⟩, by decide⟩
set_option maxRecDepth 100000 in
theorem im_X5_settle : Cond.instanceMethod yX5_settle ∈ gt ∧ Cond.selects yX5_settle.cls yX5_settle yX5_settle ∈ gt := ⟨gm_3 184 rfl rfl, gm_0 44 rfl rfl⟩
set_option maxRecDepth 100000 in
theorem ml_X5_322 : xML RX5 322 yX2_relink cX2_relink 3 none 1 := ⟨gm_3 186 rfl rfl, in_X2, cd_X2_relink, ⟨by decide +kernel, by decide +kernel, by decide +kernel⟩, by decide⟩
set_option maxRecDepth 100000 in
theorem im_X2_relink : Cond.instanceMethod yX2_relink ∈ gt ∧ Cond.selects yX2_relink.cls yX2_relink yX2_relink ∈ gt := ⟨gm_3 187 rfl rfl, gm_3 188 rfl rfl⟩
set_option maxRecDepth 100000 in
theorem ml_L_120 : xML RL 120 yX5_readAs cX5_readAs 4 (some .int) 1 := ⟨gm_3 190 rfl rfl, in_X5, cd_X5_readAs, ⟨by decide +kernel, by decide +kernel, by decide +kernel⟩, by decide⟩
set_option maxRecDepth 100000 in
theorem im_X5_readAs : Cond.instanceMethod yX5_readAs ∈ gt ∧ Cond.selects yX5_readAs.cls yX5_readAs yX5_readAs ∈ gt := ⟨gm_3 191 rfl rfl, gm_3 192 rfl rfl⟩
set_option maxRecDepth 100000 in
theorem ml_X5_254 : xML RX5 254 yX2_holdsArray cX2_holdsArray 2 (some .boolean) 0 := ⟨gm_3 194 rfl rfl, in_X2, cd_X2_holdsArray, ⟨by decide +kernel, by decide +kernel, by decide +kernel⟩, by decide⟩
set_option maxRecDepth 100000 in
theorem im_X2_holdsArray : Cond.instanceMethod yX2_holdsArray ∈ gt ∧ Cond.selects yX2_holdsArray.cls yX2_holdsArray yX2_holdsArray ∈ gt := ⟨gm_3 195 rfl rfl, gm_3 196 rfl rfl⟩
set_option maxRecDepth 100000 in
theorem ml_L_124 : xML RL 124 yX5_skip cX5_skip 2 (some .int) 0 := ⟨gm_3 198 rfl rfl, in_X5, cd_X5_skip, ⟨by decide +kernel, by decide +kernel, by decide +kernel⟩, by decide⟩
set_option maxRecDepth 100000 in
theorem im_X5_skip : Cond.instanceMethod yX5_skip ∈ gt ∧ Cond.selects yX5_skip.cls yX5_skip yX5_skip ∈ gt := ⟨gm_3 199 rfl rfl, gm_3 200 rfl rfl⟩
set_option maxRecDepth 100000 in
theorem ml_L_128 : xML RL 128 yX5_relay cX5_relay 2 (some .int) 1 := ⟨gm_3 202 rfl rfl, in_X5, cd_X5_relay, ⟨by decide +kernel, by decide +kernel, by decide +kernel⟩, by decide⟩
set_option maxRecDepth 100000 in
theorem im_X5_relay : Cond.instanceMethod yX5_relay ∈ gt ∧ Cond.selects yX5_relay.cls yX5_relay yX5_relay ∈ gt := ⟨gm_3 203 rfl rfl, gm_3 204 rfl rfl⟩
set_option maxRecDepth 100000 in
theorem ml_L_132 : xML RL 132 yX5_slack cX5_slack 6 (some .int) 1 := ⟨gm_3 206 rfl rfl, in_X5, cd_X5_slack, ⟨by decide +kernel, by decide +kernel, by decide +kernel⟩, by decide⟩
set_option maxRecDepth 100000 in
theorem im_X5_slack : Cond.instanceMethod yX5_slack ∈ gt ∧ Cond.selects yX5_slack.cls yX5_slack yX5_slack ∈ gt := ⟨gm_3 207 rfl rfl, gm_3 208 rfl rfl⟩
set_option maxRecDepth 100000 in
theorem ml_X5_257 : xML RX5 257 yX1_mayHaveLookedAt cX1_mayHaveLookedAt 2 (some .boolean) 1 := ⟨gm_3 210 rfl rfl, in_X1, cd_X1_mayHaveLookedAt, ⟨by decide +kernel, by decide +kernel, by decide +kernel⟩, by decide⟩
set_option maxRecDepth 100000 in
theorem im_X1_mayHaveLookedAt : Cond.instanceMethod yX1_mayHaveLookedAt ∈ gt ∧ Cond.selects yX1_mayHaveLookedAt.cls yX1_mayHaveLookedAt yX1_mayHaveLookedAt ∈ gt := ⟨gm_3 211 rfl rfl, gm_3 212 rfl rfl⟩
set_option maxRecDepth 100000 in
theorem ml_L_136 : xML RL 136 yX5_find cX5_find 4 (some .int) 1 := ⟨gm_3 214 rfl rfl, in_X5, cd_X5_find, ⟨by decide +kernel, by decide +kernel, by decide +kernel⟩, by decide⟩
set_option maxRecDepth 100000 in
theorem im_X5_find : Cond.instanceMethod yX5_find ∈ gt ∧ Cond.selects yX5_find.cls yX5_find yX5_find ∈ gt := ⟨gm_3 215 rfl rfl, gm_3 216 rfl rfl⟩
set_option maxRecDepth 100000 in
theorem ml_X5_260 : xML RX5 260 yX3_firstDifference cX3_firstDifference 4 (some .int) 1 := ⟨gm_3 218 rfl rfl, in_X3, cd_X3_firstDifference, ⟨by decide +kernel, by decide +kernel, by decide +kernel⟩, by decide⟩
set_option maxRecDepth 100000 in
theorem im_X3_firstDifference : Cond.instanceMethod yX3_firstDifference ∈ gt ∧ Cond.selects yX3_firstDifference.cls yX3_firstDifference yX3_firstDifference ∈ gt := ⟨gm_3 219 rfl rfl, gm_3 220 rfl rfl⟩
set_option maxRecDepth 100000 in
theorem mm_X3_29 : Cond.methodLink RX3 29 Lib.Math.min.name ∈ gt := gm_3 222 rfl rfl
set_option maxRecDepth 100000 in
theorem ml_L_140 : xML RL 140 yX5_laid cX5_laid 4 (some .int) 2 := ⟨gm_3 223 rfl rfl, in_X5, cd_X5_laid, ⟨by decide +kernel, by decide +kernel, by decide +kernel⟩, by decide⟩
set_option maxRecDepth 100000 in
theorem im_X5_laid : Cond.instanceMethod yX5_laid ∈ gt ∧ Cond.selects yX5_laid.cls yX5_laid yX5_laid ∈ gt := ⟨gm_3 224 rfl rfl, gm_3 225 rfl rfl⟩
set_option maxRecDepth 100000 in
theorem ml_L_144 : xML RL 144 yX5_part cX5_part 4 (some .int) 2 := ⟨gm_3 227 rfl rfl, in_X5, cd_X5_part, ⟨by decide +kernel, by decide +kernel, by decide +kernel⟩, by decide⟩
set_option maxRecDepth 100000 in
theorem im_X5_part : Cond.instanceMethod yX5_part ∈ gt ∧ Cond.selects yX5_part.cls yX5_part yX5_part ∈ gt := ⟨gm_3 228 rfl rfl, gm_3 229 rfl rfl⟩
set_option maxRecDepth 100000 in
theorem ml_X5_264 : xML RX5 264 yX5_slotPairError cX5_slotPairError 3 (some .int) 2 := ⟨gm_3 231 rfl rfl, in_X5, cd_X5_slotPairError, ⟨by decide +kernel, by decide +kernel, by decide +kernel⟩, by decide⟩
set_option maxRecDepth 100000 in
theorem im_X5_slotPairError : Cond.instanceMethod yX5_slotPairError ∈ gt ∧ Cond.selects yX5_slotPairError.cls yX5_slotPairError yX5_slotPairError ∈ gt := ⟨gm_3 233 rfl rfl, gm_0 45 rfl rfl⟩
set_option maxRecDepth 100000 in
theorem ml_L_148 : xML RL 148 yX5_hangs cX5_hangs 3 (some .int) 1 := ⟨gm_3 235 rfl rfl, in_X5, cd_X5_hangs, ⟨by decide +kernel, by decide +kernel, by decide +kernel⟩, by decide⟩
set_option maxRecDepth 100000 in
theorem im_X5_hangs : Cond.instanceMethod yX5_hangs ∈ gt ∧ Cond.selects yX5_hangs.cls yX5_hangs yX5_hangs ∈ gt := ⟨gm_3 236 rfl rfl, gm_3 237 rfl rfl⟩
set_option maxRecDepth 100000 in
theorem ml_L_152 : xML RL 152 yX5_far cX5_far 6 (some .int) 2 := ⟨gm_3 239 rfl rfl, in_X5, cd_X5_far, ⟨by decide +kernel, by decide +kernel, by decide +kernel⟩, by decide⟩
set_option maxRecDepth 100000 in
theorem im_X5_far : Cond.instanceMethod yX5_far ∈ gt ∧ Cond.selects yX5_far.cls yX5_far yX5_far ∈ gt := ⟨gm_4 0 rfl rfl, gm_4 1 rfl rfl⟩
set_option maxRecDepth 100000 in
theorem ml_L_156 : xML RL 156 yX5_twin cX5_twin 3 (some .int) 1 := ⟨gm_4 3 rfl rfl, in_X5, cd_X5_twin, ⟨by decide +kernel, by decide +kernel, by decide +kernel⟩, by decide⟩
set_option maxRecDepth 100000 in
theorem im_X5_twin : Cond.instanceMethod yX5_twin ∈ gt ∧ Cond.selects yX5_twin.cls yX5_twin yX5_twin ∈ gt := ⟨gm_4 4 rfl rfl, gm_4 5 rfl rfl⟩
set_option maxRecDepth 100000 in
theorem ml_L_160 : xML RL 160 yX5_called cX5_called 2 (some .long) 1 := ⟨gm_4 7 rfl rfl, in_X5, cd_X5_called, ⟨by decide +kernel, by decide +kernel, by decide +kernel⟩, by decide⟩
set_option maxRecDepth 100000 in
theorem im_X5_called : Cond.instanceMethod yX5_called ∈ gt ∧ Cond.selects yX5_called.cls yX5_called yX5_called ∈ gt := ⟨gm_4 8 rfl rfl, gm_4 9 rfl rfl⟩
set_option maxRecDepth 100000 in
theorem ml_L_165 : xML RL 165 yX5_named cX5_named 3 (some .int) 1 := ⟨gm_4 11 rfl rfl, in_X5, cd_X5_named, ⟨by decide +kernel, by decide +kernel, by decide +kernel⟩, by decide⟩
set_option maxRecDepth 100000 in
theorem im_X5_named : Cond.instanceMethod yX5_named ∈ gt ∧ Cond.selects yX5_named.cls yX5_named yX5_named ∈ gt := ⟨gm_4 12 rfl rfl, gm_4 13 rfl rfl⟩
set_option maxRecDepth 100000 in
theorem ml_L_170 : xML RL 170 yX5_count cX5_count 2 (some .int) 1 := ⟨gm_4 15 rfl rfl, in_X5, cd_X5_count, ⟨by decide +kernel, by decide +kernel, by decide +kernel⟩, by decide⟩
set_option maxRecDepth 100000 in
theorem im_X5_count : Cond.instanceMethod yX5_count ∈ gt ∧ Cond.selects yX5_count.cls yX5_count yX5_count ∈ gt := ⟨gm_4 16 rfl rfl, gm_4 17 rfl rfl⟩
set_option maxRecDepth 100000 in
theorem ml_L_12 : xML RL 12 yX6_init cX6_init 4 none 0 := ⟨gm_4 21 rfl rfl, in_X6, cd_X6_init, ⟨by decide +kernel, by decide +kernel, by decide +kernel⟩, by decide⟩
set_option maxRecDepth 100000 in
theorem im_X6_init : Cond.instanceMethod yX6_init ∈ gt ∧ yX6_init.name = "<init>" := ⟨gm_4 22 rfl rfl, rfl⟩
set_option maxRecDepth 100000 in
theorem oi_X6_1 : Cond.methodLink RX6 1 objectInit ∈ gt := gm_4 24 rfl rfl
set_option maxRecDepth 100000 in
theorem ml_L_19 : xML RL 19 yX6_make cX6_make 6 (some .int) 2 := ⟨gm_4 127 rfl rfl, in_X6, cd_X6_make, ⟨by decide +kernel, by decide +kernel, by decide +kernel⟩, by decide⟩
set_option maxRecDepth 100000 in
theorem im_X6_make : Cond.instanceMethod yX6_make ∈ gt ∧ Cond.selects yX6_make.cls yX6_make yX6_make ∈ gt := ⟨gm_4 128 rfl rfl, gm_4 129 rfl rfl⟩
set_option maxRecDepth 100000 in
theorem ml_X6_73 : xML RX6 73 yX6_isIn cX6_isIn 6 (some .boolean) 3 := ⟨gm_4 132 rfl rfl, in_X6, cd_X6_isIn, ⟨by decide +kernel, by decide +kernel, by decide +kernel⟩, by decide⟩
set_option maxRecDepth 100000 in
theorem sm_X6_isIn : Cond.static yX6_isIn ∈ gt := gm_4 133 rfl rfl
set_option maxRecDepth 100000 in
theorem ml_X6_147 : xML RX6 147 yX6_isWord cX6_isWord 5 (some .boolean) 1 := ⟨gm_4 137 rfl rfl, in_X6, cd_X6_isWord, ⟨by decide +kernel, by decide +kernel, by decide +kernel⟩, by decide⟩
set_option maxRecDepth 100000 in
theorem sm_X6_isWord : Cond.static yX6_isWord ∈ gt := gm_4 138 rfl rfl
set_option maxRecDepth 100000 in
theorem ml_X6_151 : xML RX6 151 yX6_free cX6_free 2 (some .int) 0 := ⟨gm_4 140 rfl rfl, in_X6, cd_X6_free, ⟨by decide +kernel, by decide +kernel, by decide +kernel⟩, by decide⟩
set_option maxRecDepth 100000 in
theorem im_X6_free : Cond.instanceMethod yX6_free ∈ gt ∧ Cond.selects yX6_free.cls yX6_free yX6_free ∈ gt := ⟨gm_4 142 rfl rfl, gm_0 46 rfl rfl⟩
set_option maxRecDepth 100000 in
theorem ml_X6_155 : xML RX6 155 yX6_begins cX6_begins 5 none 3 := ⟨gm_4 144 rfl rfl, in_X6, cd_X6_begins, ⟨by decide +kernel, by decide +kernel, by decide +kernel⟩, by decide⟩
set_option maxRecDepth 100000 in
theorem im_X6_begins : Cond.instanceMethod yX6_begins ∈ gt ∧ Cond.selects yX6_begins.cls yX6_begins yX6_begins ∈ gt := ⟨gm_4 146 rfl rfl, gm_0 47 rfl rfl⟩
set_option maxRecDepth 100000 in
theorem ml_L_24 : xML RL 24 yX6_kind cX6_kind 2 (some .int) 1 := ⟨gm_4 148 rfl rfl, in_X6, cd_X6_kind, ⟨by decide +kernel, by decide +kernel, by decide +kernel⟩, by decide⟩
set_option maxRecDepth 100000 in
theorem im_X6_kind : Cond.instanceMethod yX6_kind ∈ gt ∧ Cond.selects yX6_kind.cls yX6_kind yX6_kind ∈ gt := ⟨gm_4 149 rfl rfl, gm_4 150 rfl rfl⟩
set_option maxRecDepth 100000 in
theorem ml_X6_159 : xML RX6 159 yX6_isThing cX6_isThing 2 (some .boolean) 1 := ⟨gm_4 152 rfl rfl, in_X6, cd_X6_isThing, ⟨by decide +kernel, by decide +kernel, by decide +kernel⟩, by decide⟩
set_option maxRecDepth 100000 in
theorem sm_X6_isThing : Cond.static yX6_isThing ∈ gt := gm_4 153 rfl rfl
set_option maxRecDepth 100000 in
theorem ml_L_28 : xML RL 28 yX6_size cX6_size 3 (some .int) 1 := ⟨gm_4 156 rfl rfl, in_X6, cd_X6_size, ⟨by decide +kernel, by decide +kernel, by decide +kernel⟩, by decide⟩
set_option maxRecDepth 100000 in
theorem im_X6_size : Cond.instanceMethod yX6_size ∈ gt ∧ Cond.selects yX6_size.cls yX6_size yX6_size ∈ gt := ⟨gm_4 157 rfl rfl, gm_4 158 rfl rfl⟩
set_option maxRecDepth 100000 in
theorem ml_X6_162 : xML RX6 162 yX6_refusal cX6_refusal 2 (some .int) 1 := ⟨gm_4 160 rfl rfl, in_X6, cd_X6_refusal, ⟨by decide +kernel, by decide +kernel, by decide +kernel⟩, by decide⟩
set_option maxRecDepth 100000 in
theorem im_X6_refusal : Cond.instanceMethod yX6_refusal ∈ gt ∧ Cond.selects yX6_refusal.cls yX6_refusal yX6_refusal ∈ gt := ⟨gm_4 162 rfl rfl, gm_0 48 rfl rfl⟩
set_option maxRecDepth 100000 in
theorem ml_L_32 : xML RL 32 yX6_drop cX6_drop 3 (some .int) 1 := ⟨gm_4 164 rfl rfl, in_X6, cd_X6_drop, ⟨by decide +kernel, by decide +kernel, by decide +kernel⟩, by decide⟩
set_option maxRecDepth 100000 in
theorem im_X6_drop : Cond.instanceMethod yX6_drop ∈ gt ∧ Cond.selects yX6_drop.cls yX6_drop yX6_drop ∈ gt := ⟨gm_4 165 rfl rfl, gm_4 166 rfl rfl⟩
set_option maxRecDepth 100000 in
theorem ml_X6_166 : xML RX6 166 yX6_isRow cX6_isRow 2 (some .boolean) 1 := ⟨gm_4 168 rfl rfl, in_X6, cd_X6_isRow, ⟨by decide +kernel, by decide +kernel, by decide +kernel⟩, by decide⟩
set_option maxRecDepth 100000 in
theorem im_X6_isRow : Cond.instanceMethod yX6_isRow ∈ gt ∧ Cond.selects yX6_isRow.cls yX6_isRow yX6_isRow ∈ gt := ⟨gm_4 170 rfl rfl, gm_0 49 rfl rfl⟩
set_option maxRecDepth 100000 in
theorem ml_X6_170 : xML RX6 170 yX6_stands cX6_stands 4 (some .boolean) 2 := ⟨gm_4 172 rfl rfl, in_X6, cd_X6_stands, ⟨by decide +kernel, by decide +kernel, by decide +kernel⟩, by decide⟩
set_option maxRecDepth 100000 in
theorem im_X6_stands : Cond.instanceMethod yX6_stands ∈ gt ∧ Cond.selects yX6_stands.cls yX6_stands yX6_stands ∈ gt := ⟨gm_4 174 rfl rfl, gm_0 50 rfl rfl⟩
set_option maxRecDepth 100000 in
theorem ml_X6_173 : xML RX6 173 yX6_things cX6_things 3 (some .int) 0 := ⟨gm_4 176 rfl rfl, in_X6, cd_X6_things, ⟨by decide +kernel, by decide +kernel, by decide +kernel⟩, by decide⟩
set_option maxRecDepth 100000 in
theorem im_X6_things : Cond.instanceMethod yX6_things ∈ gt ∧ Cond.selects yX6_things.cls yX6_things yX6_things ∈ gt := ⟨gm_4 178 rfl rfl, gm_0 51 rfl rfl⟩
set_option maxRecDepth 100000 in
theorem ml_L_36 : xML RL 36 yX6_gather cX6_gather 5 (some .int) 1 := ⟨gm_4 180 rfl rfl, in_X6, cd_X6_gather, ⟨by decide +kernel, by decide +kernel, by decide +kernel⟩, by decide⟩
set_option maxRecDepth 100000 in
theorem im_X6_gather : Cond.instanceMethod yX6_gather ∈ gt ∧ Cond.selects yX6_gather.cls yX6_gather yX6_gather ∈ gt := ⟨gm_4 181 rfl rfl, gm_4 182 rfl rfl⟩
set_option maxRecDepth 100000 in
theorem ml_X6_176 : xML RX6 176 yX6_hanging cX6_hanging 6 (some .int) 1 := ⟨gm_4 184 rfl rfl, in_X6, cd_X6_hanging, ⟨by decide +kernel, by decide +kernel, by decide +kernel⟩, by decide⟩
set_option maxRecDepth 100000 in
theorem im_X6_hanging : Cond.instanceMethod yX6_hanging ∈ gt ∧ Cond.selects yX6_hanging.cls yX6_hanging yX6_hanging ∈ gt := ⟨gm_4 186 rfl rfl, gm_0 52 rfl rfl⟩
set_option maxRecDepth 100000 in
theorem ml_L_40 : xML RL 40 yX6_copyOf cX6_copyOf 4 (some .int) 1 := ⟨gm_4 188 rfl rfl, in_X6, cd_X6_copyOf, ⟨by decide +kernel, by decide +kernel, by decide +kernel⟩, by decide⟩
set_option maxRecDepth 100000 in
theorem im_X6_copyOf : Cond.instanceMethod yX6_copyOf ∈ gt ∧ Cond.selects yX6_copyOf.cls yX6_copyOf yX6_copyOf ∈ gt := ⟨gm_4 189 rfl rfl, gm_4 190 rfl rfl⟩
set_option maxRecDepth 100000 in
theorem ml_X6_179 : xML RX6 179 yX6_copies cX6_copies 4 none 2 := ⟨gm_4 192 rfl rfl, in_X6, cd_X6_copies, ⟨by decide +kernel, by decide +kernel, by decide +kernel⟩, by decide⟩
set_option maxRecDepth 100000 in
theorem im_X6_copies : Cond.instanceMethod yX6_copies ∈ gt ∧ Cond.selects yX6_copies.cls yX6_copies yX6_copies ∈ gt := ⟨gm_4 194 rfl rfl, gm_0 53 rfl rfl⟩
set_option maxRecDepth 100000 in
theorem ml_L_45 : xML RL 45 yX6_get cX6_get 5 (some .long) 3 := ⟨gm_4 196 rfl rfl, in_X6, cd_X6_get, ⟨by decide +kernel, by decide +kernel, by decide +kernel⟩, by decide⟩
set_option maxRecDepth 100000 in
theorem im_X6_get : Cond.instanceMethod yX6_get ∈ gt ∧ Cond.selects yX6_get.cls yX6_get yX6_get ∈ gt := ⟨gm_4 197 rfl rfl, gm_4 198 rfl rfl⟩
set_option maxRecDepth 100000 in
theorem ml_X6_192 : xML RX6 192 yX6_tells cX6_tells 3 (some .int) 2 := ⟨gm_4 201 rfl rfl, in_X6, cd_X6_tells, ⟨by decide +kernel, by decide +kernel, by decide +kernel⟩, by decide⟩
set_option maxRecDepth 100000 in
theorem im_X6_tells : Cond.instanceMethod yX6_tells ∈ gt ∧ Cond.selects yX6_tells.cls yX6_tells yX6_tells ∈ gt := ⟨gm_4 203 rfl rfl, gm_0 54 rfl rfl⟩
set_option maxRecDepth 100000 in
theorem ml_X6_196 : xML RX6 196 yX6_refusalOfGet cX6_refusalOfGet 5 (some .int) 3 := ⟨gm_4 205 rfl rfl, in_X6, cd_X6_refusalOfGet, ⟨by decide +kernel, by decide +kernel, by decide +kernel⟩, by decide⟩
set_option maxRecDepth 100000 in
theorem im_X6_refusalOfGet : Cond.instanceMethod yX6_refusalOfGet ∈ gt ∧ Cond.selects yX6_refusalOfGet.cls yX6_refusalOfGet yX6_refusalOfGet ∈ gt := ⟨gm_4 207 rfl rfl, gm_0 55 rfl rfl⟩
set_option maxRecDepth 100000 in
theorem ml_X6_183 : xML RX6 183 yX6_isPlain cX6_isPlain 2 (some .boolean) 1 := ⟨gm_4 209 rfl rfl, in_X6, cd_X6_isPlain, ⟨by decide +kernel, by decide +kernel, by decide +kernel⟩, by decide⟩
set_option maxRecDepth 100000 in
theorem im_X6_isPlain : Cond.instanceMethod yX6_isPlain ∈ gt ∧ Cond.selects yX6_isPlain.cls yX6_isPlain yX6_isPlain ∈ gt := ⟨gm_4 211 rfl rfl, gm_0 56 rfl rfl⟩
set_option maxRecDepth 100000 in
theorem ml_X6_186 : xML RX6 186 yX6_isPlace cX6_isPlace 4 (some .boolean) 2 := ⟨gm_4 213 rfl rfl, in_X6, cd_X6_isPlace, ⟨by decide +kernel, by decide +kernel, by decide +kernel⟩, by decide⟩
set_option maxRecDepth 100000 in
theorem im_X6_isPlace : Cond.instanceMethod yX6_isPlace ∈ gt ∧ Cond.selects yX6_isPlace.cls yX6_isPlace yX6_isPlace ∈ gt := ⟨gm_4 215 rfl rfl, gm_0 57 rfl rfl⟩
set_option maxRecDepth 100000 in
theorem ml_X6_128 : xML RX6 128 yX6_turns cX6_turns 2 (some .boolean) 2 := ⟨gm_4 217 rfl rfl, in_X6, cd_X6_turns, ⟨by decide +kernel, by decide +kernel, by decide +kernel⟩, by decide⟩
set_option maxRecDepth 100000 in
theorem sm_X6_turns : Cond.static yX6_turns ∈ gt := gm_4 218 rfl rfl
set_option maxRecDepth 100000 in
theorem ml_X6_200 : xML RX6 200 yX6_counts cX6_counts 2 (some .int) 1 := ⟨gm_4 220 rfl rfl, in_X6, cd_X6_counts, ⟨by decide +kernel, by decide +kernel, by decide +kernel⟩, by decide⟩
set_option maxRecDepth 100000 in
theorem im_X6_counts : Cond.instanceMethod yX6_counts ∈ gt ∧ Cond.selects yX6_counts.cls yX6_counts yX6_counts ∈ gt := ⟨gm_4 222 rfl rfl, gm_0 58 rfl rfl⟩
set_option maxRecDepth 100000 in
theorem ml_X6_132 : xML RX6 132 yX6_turned cX6_turned 4 (some .long) 3 := ⟨gm_4 224 rfl rfl, in_X6, cd_X6_turned, ⟨by decide +kernel, by decide +kernel, by decide +kernel⟩, by decide⟩
set_option maxRecDepth 100000 in
theorem sm_X6_turned : Cond.static yX6_turned ∈ gt := gm_4 225 rfl rfl
set_option maxRecDepth 100000 in
theorem ml_X6_115 : xML RX6 115 yX6_value cX6_value 3 (some .double) 2 := ⟨gm_4 227 rfl rfl, in_X6, cd_X6_value, ⟨by decide +kernel, by decide +kernel, by decide +kernel⟩, by decide⟩
set_option maxRecDepth 100000 in
theorem sm_X6_value : Cond.static yX6_value ∈ gt := gm_4 228 rfl rfl
set_option maxRecDepth 100000 in
theorem ml_X6_101 : xML RX6 101 yX6_valueOf cX6_valueOf 10 (some .double) 4 := ⟨gm_4 230 rfl rfl, in_X6, cd_X6_valueOf, ⟨by decide +kernel, by decide +kernel, by decide +kernel⟩, by decide⟩
set_option maxRecDepth 100000 in
theorem sm_X6_valueOf : Cond.static yX6_valueOf ∈ gt := gm_4 231 rfl rfl
set_option maxRecDepth 100000 in
theorem ml_X6_112 : xML RX6 112 yX6_doubleBits cX6_doubleBits 4 (some .long) 1 := ⟨gm_4 234 rfl rfl, in_X6, cd_X6_doubleBits, ⟨by decide +kernel, by decide +kernel, by decide +kernel⟩, by decide⟩
set_option maxRecDepth 100000 in
theorem sm_X6_doubleBits : Cond.static yX6_doubleBits ∈ gt := gm_4 235 rfl rfl
set_option maxRecDepth 100000 in
theorem ml_X6_93 : xML RX6 93 yX6_bitsOf cX6_bitsOf 9 (some .long) 3 := ⟨gm_4 237 rfl rfl, in_X6, cd_X6_bitsOf, ⟨by decide +kernel, by decide +kernel, by decide +kernel⟩, by decide⟩
set_option maxRecDepth 100000 in
theorem sm_X6_bitsOf : Cond.static yX6_bitsOf ∈ gt := gm_4 238 rfl rfl
set_option maxRecDepth 100000 in
theorem ml_X6_106 : xML RX6 106 yX6_floatBits cX6_floatBits 4 (some .long) 1 := ⟨gm_5 1 rfl rfl, in_X6, cd_X6_floatBits, ⟨by decide +kernel, by decide +kernel, by decide +kernel⟩, by decide⟩
set_option maxRecDepth 100000 in
theorem sm_X6_floatBits : Cond.static yX6_floatBits ∈ gt := gm_5 2 rfl rfl
set_option maxRecDepth 100000 in
theorem ml_L_50 : xML RL 50 yX6_set cX6_set 7 (some .int) 4 := ⟨gm_5 5 rfl rfl, in_X6, cd_X6_set, ⟨by decide +kernel, by decide +kernel, by decide +kernel⟩, by decide⟩
set_option maxRecDepth 100000 in
theorem im_X6_set : Cond.instanceMethod yX6_set ∈ gt ∧ Cond.selects yX6_set.cls yX6_set yX6_set ∈ gt := ⟨gm_5 6 rfl rfl, gm_5 7 rfl rfl⟩
set_option maxRecDepth 100000 in
theorem ml_X6_203 : xML RX6 203 yX6_isNumber cX6_isNumber 3 (some .boolean) 2 := ⟨gm_5 9 rfl rfl, in_X6, cd_X6_isNumber, ⟨by decide +kernel, by decide +kernel, by decide +kernel⟩, by decide⟩
set_option maxRecDepth 100000 in
theorem sm_X6_isNumber : Cond.static yX6_isNumber ∈ gt := gm_5 10 rfl rfl
set_option maxRecDepth 100000 in
theorem ml_X6_206 : xML RX6 206 yX6_given cX6_given 3 (some .long) 2 := ⟨gm_5 19 rfl rfl, in_X6, cd_X6_given, ⟨by decide +kernel, by decide +kernel, by decide +kernel⟩, by decide⟩
set_option maxRecDepth 100000 in
theorem sm_X6_given : Cond.static yX6_given ∈ gt := gm_5 20 rfl rfl
set_option maxRecDepth 100000 in
theorem ml_L_55 : xML RL 55 yX6_usable cX6_usable 7 (some .int) 3 := ⟨gm_5 24 rfl rfl, in_X6, cd_X6_usable, ⟨by decide +kernel, by decide +kernel, by decide +kernel⟩, by decide⟩
set_option maxRecDepth 100000 in
theorem im_X6_usable : Cond.instanceMethod yX6_usable ∈ gt ∧ Cond.selects yX6_usable.cls yX6_usable yX6_usable ∈ gt := ⟨gm_5 25 rfl rfl, gm_5 26 rfl rfl⟩
set_option maxRecDepth 100000 in
theorem ml_L_59 : xML RL 59 yX6_look cX6_look 5 (some .long) 3 := ⟨gm_5 28 rfl rfl, in_X6, cd_X6_look, ⟨by decide +kernel, by decide +kernel, by decide +kernel⟩, by decide⟩
set_option maxRecDepth 100000 in
theorem im_X6_look : Cond.instanceMethod yX6_look ∈ gt ∧ Cond.selects yX6_look.cls yX6_look yX6_look ∈ gt := ⟨gm_5 29 rfl rfl, gm_5 30 rfl rfl⟩
set_option maxRecDepth 100000 in
theorem ml_L_63 : xML RL 63 yX6_put cX6_put 7 (some .int) 4 := ⟨gm_5 32 rfl rfl, in_X6, cd_X6_put, ⟨by decide +kernel, by decide +kernel, by decide +kernel⟩, by decide⟩
set_option maxRecDepth 100000 in
theorem im_X6_put : Cond.instanceMethod yX6_put ∈ gt ∧ Cond.selects yX6_put.cls yX6_put yX6_put ∈ gt := ⟨gm_5 33 rfl rfl, gm_5 34 rfl rfl⟩
set_option maxRecDepth 100000 in
theorem ml_X6_210 : xML RX6 210 yX6_isSomething cX6_isSomething 4 (some .boolean) 2 := ⟨gm_5 36 rfl rfl, in_X6, cd_X6_isSomething, ⟨by decide +kernel, by decide +kernel, by decide +kernel⟩, by decide⟩
set_option maxRecDepth 100000 in
theorem im_X6_isSomething : Cond.instanceMethod yX6_isSomething ∈ gt ∧ Cond.selects yX6_isSomething.cls yX6_isSomething yX6_isSomething ∈ gt := ⟨gm_5 38 rfl rfl, gm_0 59 rfl rfl⟩
set_option maxRecDepth 100000 in
theorem ml_X6_213 : xML RX6 213 yX6_takes cX6_takes 5 (some .boolean) 3 := ⟨gm_5 40 rfl rfl, in_X6, cd_X6_takes, ⟨by decide +kernel, by decide +kernel, by decide +kernel⟩, by decide⟩
set_option maxRecDepth 100000 in
theorem im_X6_takes : Cond.instanceMethod yX6_takes ∈ gt ∧ Cond.selects yX6_takes.cls yX6_takes yX6_takes ∈ gt := ⟨gm_5 42 rfl rfl, gm_0 60 rfl rfl⟩
set_option maxRecDepth 100000 in
theorem ml_L_67 : xML RL 67 yX6_swap cX6_swap 8 (some .int) 3 := ⟨gm_5 45 rfl rfl, in_X6, cd_X6_swap, ⟨by decide +kernel, by decide +kernel, by decide +kernel⟩, by decide⟩
set_option maxRecDepth 100000 in
theorem im_X6_swap : Cond.instanceMethod yX6_swap ∈ gt ∧ Cond.selects yX6_swap.cls yX6_swap yX6_swap ∈ gt := ⟨gm_5 46 rfl rfl, gm_5 47 rfl rfl⟩
set_option maxRecDepth 100000 in
theorem ml_L_71 : xML RL 71 yX6_went cX6_went 2 (some .int) 1 := ⟨gm_5 49 rfl rfl, in_X6, cd_X6_went, ⟨by decide +kernel, by decide +kernel, by decide +kernel⟩, by decide⟩
set_option maxRecDepth 100000 in
theorem im_X6_went : Cond.instanceMethod yX6_went ∈ gt ∧ Cond.selects yX6_went.cls yX6_went yX6_went ∈ gt := ⟨gm_5 50 rfl rfl, gm_5 51 rfl rfl⟩
set_option maxRecDepth 100000 in
theorem ml_L_76 : xML RL 76 yX6_carry cX6_carry 8 (some .int) 5 := ⟨gm_5 53 rfl rfl, in_X6, cd_X6_carry, ⟨by decide +kernel, by decide +kernel, by decide +kernel⟩, by decide⟩
set_option maxRecDepth 100000 in
theorem im_X6_carry : Cond.instanceMethod yX6_carry ∈ gt ∧ Cond.selects yX6_carry.cls yX6_carry yX6_carry ∈ gt := ⟨gm_5 54 rfl rfl, gm_5 55 rfl rfl⟩
set_option maxRecDepth 100000 in
theorem ml_X6_217 : xML RX6 217 yX6_refusalOfTwo cX6_refusalOfTwo 3 (some .int) 2 := ⟨gm_5 57 rfl rfl, in_X6, cd_X6_refusalOfTwo, ⟨by decide +kernel, by decide +kernel, by decide +kernel⟩, by decide⟩
set_option maxRecDepth 100000 in
theorem im_X6_refusalOfTwo : Cond.instanceMethod yX6_refusalOfTwo ∈ gt ∧ Cond.selects yX6_refusalOfTwo.cls yX6_refusalOfTwo yX6_refusalOfTwo ∈ gt := ⟨gm_5 59 rfl rfl, gm_0 61 rfl rfl⟩
set_option maxRecDepth 100000 in
theorem ml_L_81 : xML RL 81 yX6_convert cX6_convert 5 (some .int) 2 := ⟨gm_5 61 rfl rfl, in_X6, cd_X6_convert, ⟨by decide +kernel, by decide +kernel, by decide +kernel⟩, by decide⟩
set_option maxRecDepth 100000 in
theorem im_X6_convert : Cond.instanceMethod yX6_convert ∈ gt ∧ Cond.selects yX6_convert.cls yX6_convert yX6_convert ∈ gt := ⟨gm_5 62 rfl rfl, gm_5 63 rfl rfl⟩
set_option maxRecDepth 100000 in
theorem ml_X6_220 : xML RX6 220 yX6_firstRefused cX6_firstRefused 4 (some .int) 2 := ⟨gm_5 65 rfl rfl, in_X6, cd_X6_firstRefused, ⟨by decide +kernel, by decide +kernel, by decide +kernel⟩, by decide⟩
set_option maxRecDepth 100000 in
theorem im_X6_firstRefused : Cond.instanceMethod yX6_firstRefused ∈ gt ∧ Cond.selects yX6_firstRefused.cls yX6_firstRefused yX6_firstRefused ∈ gt := ⟨gm_5 67 rfl rfl, gm_0 62 rfl rfl⟩
set_option maxRecDepth 100000 in
theorem ml_X6_223 : xML RX6 223 yX6_converted cX6_converted 5 (some .int) 2 := ⟨gm_5 69 rfl rfl, in_X6, cd_X6_converted, ⟨by decide +kernel, by decide +kernel, by decide +kernel⟩, by decide⟩
set_option maxRecDepth 100000 in
theorem im_X6_converted : Cond.instanceMethod yX6_converted ∈ gt ∧ Cond.selects yX6_converted.cls yX6_converted yX6_converted ∈ gt := ⟨gm_5 71 rfl rfl, gm_0 63 rfl rfl⟩
set_option maxRecDepth 100000 in
theorem ml_L_85 : xML RL 85 yX6_shape cX6_shape 8 (some .int) 2 := ⟨gm_5 73 rfl rfl, in_X6, cd_X6_shape, ⟨by decide +kernel, by decide +kernel, by decide +kernel⟩, by decide⟩
set_option maxRecDepth 100000 in
theorem im_X6_shape : Cond.instanceMethod yX6_shape ∈ gt ∧ Cond.selects yX6_shape.cls yX6_shape yX6_shape ∈ gt := ⟨gm_5 74 rfl rfl, gm_5 75 rfl rfl⟩
set_option maxRecDepth 100000 in
theorem ml_X6_226 : xML RX6 226 yX6_namedIn cX6_namedIn 4 (some .int) 2 := ⟨gm_5 77 rfl rfl, in_X6, cd_X6_namedIn, ⟨by decide +kernel, by decide +kernel, by decide +kernel⟩, by decide⟩
set_option maxRecDepth 100000 in
theorem im_X6_namedIn : Cond.instanceMethod yX6_namedIn ∈ gt ∧ Cond.selects yX6_namedIn.cls yX6_namedIn yX6_namedIn ∈ gt := ⟨gm_5 79 rfl rfl, gm_0 64 rfl rfl⟩
set_option maxRecDepth 100000 in
theorem ml_L_90 : xML RL 90 yX6_sum cX6_sum 4 (some .long) 2 := ⟨gm_5 81 rfl rfl, in_X6, cd_X6_sum, ⟨by decide +kernel, by decide +kernel, by decide +kernel⟩, by decide⟩
set_option maxRecDepth 100000 in
theorem im_X6_sum : Cond.instanceMethod yX6_sum ∈ gt ∧ Cond.selects yX6_sum.cls yX6_sum yX6_sum ∈ gt := ⟨gm_5 82 rfl rfl, gm_5 83 rfl rfl⟩
set_option maxRecDepth 100000 in
theorem ml_X6_231 : xML RX6 231 yX6_added cX6_added 11 (some .long) 2 := ⟨gm_5 86 rfl rfl, in_X6, cd_X6_added, ⟨by decide +kernel, by decide +kernel, by decide +kernel⟩, by decide⟩
set_option maxRecDepth 100000 in
theorem im_X6_added : Cond.instanceMethod yX6_added ∈ gt ∧ Cond.selects yX6_added.cls yX6_added yX6_added ∈ gt := ⟨gm_5 88 rfl rfl, gm_0 65 rfl rfl⟩
set_option maxRecDepth 100000 in
theorem ml_L_94 : xML RL 94 yX6_mode cX6_mode 3 (some .int) 1 := ⟨gm_5 90 rfl rfl, in_X6, cd_X6_mode, ⟨by decide +kernel, by decide +kernel, by decide +kernel⟩, by decide⟩
set_option maxRecDepth 100000 in
theorem im_X6_mode : Cond.instanceMethod yX6_mode ∈ gt ∧ Cond.selects yX6_mode.cls yX6_mode yX6_mode ∈ gt := ⟨gm_5 91 rfl rfl, gm_5 92 rfl rfl⟩
set_option maxRecDepth 100000 in
theorem ml_L_98 : xML RL 98 yX6_lay cX6_lay 2 (some .int) 1 := ⟨gm_5 95 rfl rfl, in_X6, cd_X6_lay, ⟨by decide +kernel, by decide +kernel, by decide +kernel⟩, by decide⟩
set_option maxRecDepth 100000 in
theorem im_X6_lay : Cond.instanceMethod yX6_lay ∈ gt ∧ Cond.selects yX6_lay.cls yX6_lay yX6_lay ∈ gt := ⟨gm_5 96 rfl rfl, gm_5 97 rfl rfl⟩
set_option maxRecDepth 100000 in
theorem ml_X6_360 : xML RX6 360 yX6_laysAll cX6_laysAll 5 (some .int) 2 := ⟨gm_5 99 rfl rfl, in_X6, cd_X6_laysAll, ⟨by decide +kernel, by decide +kernel, by decide +kernel⟩, by decide⟩
set_option maxRecDepth 100000 in
theorem im_X6_laysAll : Cond.instanceMethod yX6_laysAll ∈ gt ∧ Cond.selects yX6_laysAll.cls yX6_laysAll yX6_laysAll ∈ gt := ⟨gm_5 101 rfl rfl, gm_0 66 rfl rfl⟩
set_option maxRecDepth 100000 in
theorem ml_X6_270 : xML RX6 270 yX6_laysWord cX6_laysWord 9 none 1 := ⟨gm_5 103 rfl rfl, in_X6, cd_X6_laysWord, ⟨by decide +kernel, by decide +kernel, by decide +kernel⟩, by decide⟩
set_option maxRecDepth 100000 in
theorem im_X6_laysWord : Cond.instanceMethod yX6_laysWord ∈ gt ∧ Cond.selects yX6_laysWord.cls yX6_laysWord yX6_laysWord ∈ gt := ⟨gm_5 105 rfl rfl, gm_0 67 rfl rfl⟩
set_option maxRecDepth 100000 in
theorem ml_X6_240 : xML RX6 240 yX6_lays cX6_lays 2 none 1 := ⟨gm_5 107 rfl rfl, in_X6, cd_X6_lays, ⟨by decide +kernel, by decide +kernel, by decide +kernel⟩, by decide⟩
set_option maxRecDepth 100000 in
theorem im_X6_lays : Cond.instanceMethod yX6_lays ∈ gt ∧ Cond.selects yX6_lays.cls yX6_lays yX6_lays ∈ gt := ⟨gm_5 109 rfl rfl, gm_0 68 rfl rfl⟩
set_option maxRecDepth 100000 in
theorem ml_X6_273 : xML RX6 273 yX6_laysRow cX6_laysRow 4 none 2 := ⟨gm_5 111 rfl rfl, in_X6, cd_X6_laysRow, ⟨by decide +kernel, by decide +kernel, by decide +kernel⟩, by decide⟩
set_option maxRecDepth 100000 in
theorem im_X6_laysRow : Cond.instanceMethod yX6_laysRow ∈ gt ∧ Cond.selects yX6_laysRow.cls yX6_laysRow yX6_laysRow ∈ gt := ⟨gm_5 113 rfl rfl, gm_0 69 rfl rfl⟩
set_option maxRecDepth 100000 in
theorem ml_X6_264 : xML RX6 264 yX6_laysPlain cX6_laysPlain 4 none 2 := ⟨gm_5 115 rfl rfl, in_X6, cd_X6_laysPlain, ⟨by decide +kernel, by decide +kernel, by decide +kernel⟩, by decide⟩
set_option maxRecDepth 100000 in
theorem im_X6_laysPlain : Cond.instanceMethod yX6_laysPlain ∈ gt ∧ Cond.selects yX6_laysPlain.cls yX6_laysPlain yX6_laysPlain ∈ gt := ⟨gm_5 117 rfl rfl, gm_0 70 rfl rfl⟩
set_option maxRecDepth 100000 in
theorem ml_X6_254 : xML RX6 254 yX6_laysRuns cX6_laysRuns 4 none 1 := ⟨gm_5 119 rfl rfl, in_X6, cd_X6_laysRuns, ⟨by decide +kernel, by decide +kernel, by decide +kernel⟩, by decide⟩
set_option maxRecDepth 100000 in
theorem im_X6_laysRuns : Cond.instanceMethod yX6_laysRuns ∈ gt ∧ Cond.selects yX6_laysRuns.cls yX6_laysRuns yX6_laysRuns ∈ gt := ⟨gm_5 121 rfl rfl, gm_0 71 rfl rfl⟩
set_option maxRecDepth 100000 in
theorem ml_X6_250 : xML RX6 250 yX6_laysNumber cX6_laysNumber 7 none 2 := ⟨gm_5 123 rfl rfl, in_X6, cd_X6_laysNumber, ⟨by decide +kernel, by decide +kernel, by decide +kernel⟩, by decide⟩
set_option maxRecDepth 100000 in
theorem im_X6_laysNumber : Cond.instanceMethod yX6_laysNumber ∈ gt ∧ Cond.selects yX6_laysNumber.cls yX6_laysNumber yX6_laysNumber ∈ gt := ⟨gm_5 125 rfl rfl, gm_0 72 rfl rfl⟩
set_option maxRecDepth 100000 in
theorem ml_X6_244 : xML RX6 244 yX6_laysWhole cX6_laysWhole 5 none 2 := ⟨gm_5 128 rfl rfl, in_X6, cd_X6_laysWhole, ⟨by decide +kernel, by decide +kernel, by decide +kernel⟩, by decide⟩
set_option maxRecDepth 100000 in
theorem im_X6_laysWhole : Cond.instanceMethod yX6_laysWhole ∈ gt ∧ Cond.selects yX6_laysWhole.cls yX6_laysWhole yX6_laysWhole ∈ gt := ⟨gm_5 130 rfl rfl, gm_0 73 rfl rfl⟩
set_option maxRecDepth 100000 in
theorem ml_X6_257 : xML RX6 257 yX6_laysStep cX6_laysStep 7 none 1 := ⟨gm_5 133 rfl rfl, in_X6, cd_X6_laysStep, ⟨by decide +kernel, by decide +kernel, by decide +kernel⟩, by decide⟩
set_option maxRecDepth 100000 in
theorem im_X6_laysStep : Cond.instanceMethod yX6_laysStep ∈ gt ∧ Cond.selects yX6_laysStep.cls yX6_laysStep yX6_laysStep ∈ gt := ⟨gm_5 135 rfl rfl, gm_0 74 rfl rfl⟩
set_option maxRecDepth 100000 in
theorem ml_X6_276 : xML RX6 276 yX6_laysCell cX6_laysCell 5 none 3 := ⟨gm_5 137 rfl rfl, in_X6, cd_X6_laysCell, ⟨by decide +kernel, by decide +kernel, by decide +kernel⟩, by decide⟩
set_option maxRecDepth 100000 in
theorem im_X6_laysCell : Cond.instanceMethod yX6_laysCell ∈ gt ∧ Cond.selects yX6_laysCell.cls yX6_laysCell yX6_laysCell ∈ gt := ⟨gm_5 139 rfl rfl, gm_0 75 rfl rfl⟩
set_option maxRecDepth 100000 in
theorem ml_X6_363 : xML RX6 363 yX6_comes cX6_comes 2 (some .int) 0 := ⟨gm_5 141 rfl rfl, in_X6, cd_X6_comes, ⟨by decide +kernel, by decide +kernel, by decide +kernel⟩, by decide⟩
set_option maxRecDepth 100000 in
theorem im_X6_comes : Cond.instanceMethod yX6_comes ∈ gt ∧ Cond.selects yX6_comes.cls yX6_comes yX6_comes ∈ gt := ⟨gm_5 143 rfl rfl, gm_0 76 rfl rfl⟩
set_option maxRecDepth 100000 in
theorem ml_L_102 : xML RL 102 yX6_tape cX6_tape 2 (some .int) 1 := ⟨gm_5 145 rfl rfl, in_X6, cd_X6_tape, ⟨by decide +kernel, by decide +kernel, by decide +kernel⟩, by decide⟩
set_option maxRecDepth 100000 in
theorem im_X6_tape : Cond.instanceMethod yX6_tape ∈ gt ∧ Cond.selects yX6_tape.cls yX6_tape yX6_tape ∈ gt := ⟨gm_5 146 rfl rfl, gm_5 147 rfl rfl⟩
set_option maxRecDepth 100000 in
theorem ml_L_106 : xML RL 106 yX6_poke cX6_poke 4 (some .int) 2 := ⟨gm_5 149 rfl rfl, in_X6, cd_X6_poke, ⟨by decide +kernel, by decide +kernel, by decide +kernel⟩, by decide⟩
set_option maxRecDepth 100000 in
theorem im_X6_poke : Cond.instanceMethod yX6_poke ∈ gt ∧ Cond.selects yX6_poke.cls yX6_poke yX6_poke ∈ gt := ⟨gm_5 150 rfl rfl, gm_5 151 rfl rfl⟩
set_option maxRecDepth 100000 in
theorem ml_L_110 : xML RL 110 yX6_cut cX6_cut 3 (some .int) 1 := ⟨gm_5 153 rfl rfl, in_X6, cd_X6_cut, ⟨by decide +kernel, by decide +kernel, by decide +kernel⟩, by decide⟩
set_option maxRecDepth 100000 in
theorem im_X6_cut : Cond.instanceMethod yX6_cut ∈ gt ∧ Cond.selects yX6_cut.cls yX6_cut yX6_cut ∈ gt := ⟨gm_5 154 rfl rfl, gm_5 155 rfl rfl⟩
set_option maxRecDepth 100000 in
theorem ml_L_114 : xML RL 114 yX6_seek cX6_seek 3 (some .int) 1 := ⟨gm_5 157 rfl rfl, in_X6, cd_X6_seek, ⟨by decide +kernel, by decide +kernel, by decide +kernel⟩, by decide⟩
set_option maxRecDepth 100000 in
theorem im_X6_seek : Cond.instanceMethod yX6_seek ∈ gt ∧ Cond.selects yX6_seek.cls yX6_seek yX6_seek ∈ gt := ⟨gm_5 158 rfl rfl, gm_5 159 rfl rfl⟩
set_option maxRecDepth 100000 in
theorem ml_L_119 : xML RL 119 yX6_read cX6_read 4 (some .int) 0 := ⟨gm_5 161 rfl rfl, in_X6, cd_X6_read, ⟨by decide +kernel, by decide +kernel, by decide +kernel⟩, by decide⟩
set_option maxRecDepth 100000 in
theorem im_X6_read : Cond.instanceMethod yX6_read ∈ gt ∧ Cond.selects yX6_read.cls yX6_read yX6_read ∈ gt := ⟨gm_5 162 rfl rfl, gm_5 163 rfl rfl⟩
set_option maxRecDepth 100000 in
theorem ml_X6_369 : xML RX6 369 yX6_fromTape cX6_fromTape 2 none 0 := ⟨gm_5 165 rfl rfl, in_X6, cd_X6_fromTape, ⟨by decide +kernel, by decide +kernel, by decide +kernel⟩, by decide⟩
set_option maxRecDepth 100000 in
theorem im_X6_fromTape : Cond.instanceMethod yX6_fromTape ∈ gt ∧ Cond.selects yX6_fromTape.cls yX6_fromTape yX6_fromTape ∈ gt := ⟨gm_5 167 rfl rfl, gm_0 77 rfl rfl⟩
set_option maxRecDepth 100000 in
theorem ml_X6_372 : xML RX6 372 yX6_readsItem cX6_readsItem 5 (some .int) 1 := ⟨gm_5 169 rfl rfl, in_X6, cd_X6_readsItem, ⟨by decide +kernel, by decide +kernel, by decide +kernel⟩, by decide⟩
set_option maxRecDepth 100000 in
theorem im_X6_readsItem : Cond.instanceMethod yX6_readsItem ∈ gt ∧ Cond.selects yX6_readsItem.cls yX6_readsItem yX6_readsItem ∈ gt := ⟨gm_5 171 rfl rfl, gm_0 78 rfl rfl⟩
set_option maxRecDepth 100000 in
theorem ml_X6_292 : xML RX6 292 yX6_byteAt cX6_byteAt 2 (some .int) 1 := ⟨gm_5 173 rfl rfl, in_X6, cd_X6_byteAt, ⟨by decide +kernel, by decide +kernel, by decide +kernel⟩, by decide⟩
set_option maxRecDepth 100000 in
theorem im_X6_byteAt : Cond.instanceMethod yX6_byteAt ∈ gt ∧ Cond.selects yX6_byteAt.cls yX6_byteAt yX6_byteAt ∈ gt := ⟨gm_5 175 rfl rfl, gm_0 79 rfl rfl⟩
set_option maxRecDepth 100000 in
theorem ml_X6_348 : xML RX6 348 yX6_readsWord cX6_readsWord 5 (some .long) 0 := ⟨gm_5 177 rfl rfl, in_X6, cd_X6_readsWord, ⟨by decide +kernel, by decide +kernel, by decide +kernel⟩, by decide⟩
set_option maxRecDepth 100000 in
theorem im_X6_readsWord : Cond.instanceMethod yX6_readsWord ∈ gt ∧ Cond.selects yX6_readsWord.cls yX6_readsWord yX6_readsWord ∈ gt := ⟨gm_5 179 rfl rfl, gm_0 80 rfl rfl⟩
set_option maxRecDepth 100000 in
theorem ml_X6_320 : xML RX6 320 yX6_part1 cX6_part1 4 (some .int) 2 := ⟨gm_5 181 rfl rfl, in_X6, cd_X6_part1, ⟨by decide +kernel, by decide +kernel, by decide +kernel⟩, by decide⟩
set_option maxRecDepth 100000 in
theorem im_X6_part1 : Cond.instanceMethod yX6_part1 ∈ gt ∧ Cond.selects yX6_part1.cls yX6_part1 yX6_part1 ∈ gt := ⟨gm_5 183 rfl rfl, gm_0 81 rfl rfl⟩
set_option maxRecDepth 100000 in
theorem ml_X6_295 : xML RX6 295 yX6_faults cX6_faults 2 none 1 := ⟨gm_5 185 rfl rfl, in_X6, cd_X6_faults, ⟨by decide +kernel, by decide +kernel, by decide +kernel⟩, by decide⟩
set_option maxRecDepth 100000 in
theorem im_X6_faults : Cond.instanceMethod yX6_faults ∈ gt ∧ Cond.selects yX6_faults.cls yX6_faults yX6_faults ∈ gt := ⟨gm_5 187 rfl rfl, gm_0 82 rfl rfl⟩
set_option maxRecDepth 100000 in
theorem ml_X6_339 : xML RX6 339 yX6_isRowTag cX6_isRowTag 1 (some .boolean) 1 := ⟨gm_5 189 rfl rfl, in_X6, cd_X6_isRowTag, ⟨by decide +kernel, by decide +kernel, by decide +kernel⟩, by decide⟩
set_option maxRecDepth 100000 in
theorem sm_X6_isRowTag : Cond.static yX6_isRowTag ∈ gt := gm_5 190 rfl rfl
set_option maxRecDepth 100000 in
theorem ml_X6_345 : xML RX6 345 yX6_readsRow cX6_readsRow 4 none 0 := ⟨gm_5 192 rfl rfl, in_X6, cd_X6_readsRow, ⟨by decide +kernel, by decide +kernel, by decide +kernel⟩, by decide⟩
set_option maxRecDepth 100000 in
theorem im_X6_readsRow : Cond.instanceMethod yX6_readsRow ∈ gt ∧ Cond.selects yX6_readsRow.cls yX6_readsRow yX6_readsRow ∈ gt := ⟨gm_5 194 rfl rfl, gm_0 83 rfl rfl⟩
set_option maxRecDepth 100000 in
theorem ml_X6_330 : xML RX6 330 yX6_readsFlat cX6_readsFlat 3 none 1 := ⟨gm_5 196 rfl rfl, in_X6, cd_X6_readsFlat, ⟨by decide +kernel, by decide +kernel, by decide +kernel⟩, by decide⟩
set_option maxRecDepth 100000 in
theorem im_X6_readsFlat : Cond.instanceMethod yX6_readsFlat ∈ gt ∧ Cond.selects yX6_readsFlat.cls yX6_readsFlat yX6_readsFlat ∈ gt := ⟨gm_5 198 rfl rfl, gm_0 84 rfl rfl⟩
set_option maxRecDepth 100000 in
theorem ml_X6_316 : xML RX6 316 yX6_readsNumber cX6_readsNumber 11 (some .long) 1 := ⟨gm_5 200 rfl rfl, in_X6, cd_X6_readsNumber, ⟨by decide +kernel, by decide +kernel, by decide +kernel⟩, by decide⟩
set_option maxRecDepth 100000 in
theorem im_X6_readsNumber : Cond.instanceMethod yX6_readsNumber ∈ gt ∧ Cond.selects yX6_readsNumber.cls yX6_readsNumber yX6_readsNumber ∈ gt := ⟨gm_5 202 rfl rfl, gm_0 85 rfl rfl⟩
set_option maxRecDepth 100000 in
theorem ml_X6_306 : xML RX6 306 yX6_width cX6_width 1 (some .int) 1 := ⟨gm_5 204 rfl rfl, in_X6, cd_X6_width, ⟨by decide +kernel, by decide +kernel, by decide +kernel⟩, by decide⟩
set_option maxRecDepth 100000 in
theorem sm_X6_width : Cond.static yX6_width ∈ gt := gm_5 205 rfl rfl
set_option maxRecDepth 100000 in
theorem ml_X6_309 : xML RX6 309 yX6_readsWhole cX6_readsWhole 6 (some .long) 2 := ⟨gm_5 207 rfl rfl, in_X6, cd_X6_readsWhole, ⟨by decide +kernel, by decide +kernel, by decide +kernel⟩, by decide⟩
set_option maxRecDepth 100000 in
theorem im_X6_readsWhole : Cond.instanceMethod yX6_readsWhole ∈ gt ∧ Cond.selects yX6_readsWhole.cls yX6_readsWhole yX6_readsWhole ∈ gt := ⟨gm_5 209 rfl rfl, gm_0 86 rfl rfl⟩
set_option maxRecDepth 100000 in
theorem ml_X6_313 : xML RX6 313 yX6_isFraction cX6_isFraction 9 (some .boolean) 3 := ⟨gm_5 212 rfl rfl, in_X6, cd_X6_isFraction, ⟨by decide +kernel, by decide +kernel, by decide +kernel⟩, by decide⟩
set_option maxRecDepth 100000 in
theorem sm_X6_isFraction : Cond.static yX6_isFraction ∈ gt := gm_5 213 rfl rfl
set_option maxRecDepth 100000 in
theorem ml_X6_333 : xML RX6 333 yX6_readsRuns cX6_readsRuns 7 none 1 := ⟨gm_5 217 rfl rfl, in_X6, cd_X6_readsRuns, ⟨by decide +kernel, by decide +kernel, by decide +kernel⟩, by decide⟩
set_option maxRecDepth 100000 in
theorem im_X6_readsRuns : Cond.instanceMethod yX6_readsRuns ∈ gt ∧ Cond.selects yX6_readsRuns.cls yX6_readsRuns yX6_readsRuns ∈ gt := ⟨gm_5 219 rfl rfl, gm_0 87 rfl rfl⟩
set_option maxRecDepth 100000 in
theorem ml_X6_336 : xML RX6 336 yX6_readsSteps cX6_readsSteps 6 none 1 := ⟨gm_5 221 rfl rfl, in_X6, cd_X6_readsSteps, ⟨by decide +kernel, by decide +kernel, by decide +kernel⟩, by decide⟩
set_option maxRecDepth 100000 in
theorem im_X6_readsSteps : Cond.instanceMethod yX6_readsSteps ∈ gt ∧ Cond.selects yX6_readsSteps.cls yX6_readsSteps yX6_readsSteps ∈ gt := ⟨gm_5 223 rfl rfl, gm_0 88 rfl rfl⟩
set_option maxRecDepth 100000 in
theorem ml_X6_323 : xML RX6 323 yX6_readsStep cX6_readsStep 5 (some .long) 0 := ⟨gm_5 225 rfl rfl, in_X6, cd_X6_readsStep, ⟨by decide +kernel, by decide +kernel, by decide +kernel⟩, by decide⟩
set_option maxRecDepth 100000 in
theorem im_X6_readsStep : Cond.instanceMethod yX6_readsStep ∈ gt ∧ Cond.selects yX6_readsStep.cls yX6_readsStep yX6_readsStep ∈ gt := ⟨gm_5 227 rfl rfl, gm_0 89 rfl rfl⟩
set_option maxRecDepth 100000 in
theorem ml_X6_351 : xML RX6 351 yX6_readsCell cX6_readsCell 6 none 2 := ⟨gm_5 229 rfl rfl, in_X6, cd_X6_readsCell, ⟨by decide +kernel, by decide +kernel, by decide +kernel⟩, by decide⟩
set_option maxRecDepth 100000 in
theorem im_X6_readsCell : Cond.instanceMethod yX6_readsCell ∈ gt ∧ Cond.selects yX6_readsCell.cls yX6_readsCell yX6_readsCell ∈ gt := ⟨gm_5 231 rfl rfl, gm_0 90 rfl rfl⟩
set_option maxRecDepth 100000 in
theorem ml_X6_342 : xML RX6 342 yX6_mayStand cX6_mayStand 3 (some .boolean) 2 := ⟨gm_5 233 rfl rfl, in_X6, cd_X6_mayStand, ⟨by decide +kernel, by decide +kernel, by decide +kernel⟩, by decide⟩
set_option maxRecDepth 100000 in
theorem im_X6_mayStand : Cond.instanceMethod yX6_mayStand ∈ gt ∧ Cond.selects yX6_mayStand.cls yX6_mayStand yX6_mayStand ∈ gt := ⟨gm_5 235 rfl rfl, gm_0 91 rfl rfl⟩
set_option maxRecDepth 100000 in
theorem ml_X6_375 : xML RX6 375 yX6_news cX6_news 7 (some .int) 2 := ⟨gm_5 237 rfl rfl, in_X6, cd_X6_news, ⟨by decide +kernel, by decide +kernel, by decide +kernel⟩, by decide⟩
set_option maxRecDepth 100000 in
theorem im_X6_news : Cond.instanceMethod yX6_news ∈ gt ∧ Cond.selects yX6_news.cls yX6_news yX6_news ∈ gt := ⟨gm_5 239 rfl rfl, gm_0 92 rfl rfl⟩
set_option maxRecDepth 100000 in
theorem ml_L_123 : xML RL 123 yX6_readAs cX6_readAs 4 (some .int) 1 := ⟨gm_6 1 rfl rfl, in_X6, cd_X6_readAs, ⟨by decide +kernel, by decide +kernel, by decide +kernel⟩, by decide⟩
set_option maxRecDepth 100000 in
theorem im_X6_readAs : Cond.instanceMethod yX6_readAs ∈ gt ∧ Cond.selects yX6_readAs.cls yX6_readAs yX6_readAs ∈ gt := ⟨gm_6 2 rfl rfl, gm_6 3 rfl rfl⟩
set_option maxRecDepth 100000 in
theorem ml_L_127 : xML RL 127 yX6_skip cX6_skip 3 (some .int) 0 := ⟨gm_6 5 rfl rfl, in_X6, cd_X6_skip, ⟨by decide +kernel, by decide +kernel, by decide +kernel⟩, by decide⟩
set_option maxRecDepth 100000 in
theorem im_X6_skip : Cond.instanceMethod yX6_skip ∈ gt ∧ Cond.selects yX6_skip.cls yX6_skip yX6_skip ∈ gt := ⟨gm_6 6 rfl rfl, gm_6 7 rfl rfl⟩
set_option maxRecDepth 100000 in
theorem ml_L_131 : xML RL 131 yX6_relay cX6_relay 3 (some .int) 1 := ⟨gm_6 9 rfl rfl, in_X6, cd_X6_relay, ⟨by decide +kernel, by decide +kernel, by decide +kernel⟩, by decide⟩
set_option maxRecDepth 100000 in
theorem im_X6_relay : Cond.instanceMethod yX6_relay ∈ gt ∧ Cond.selects yX6_relay.cls yX6_relay yX6_relay ∈ gt := ⟨gm_6 10 rfl rfl, gm_6 11 rfl rfl⟩
set_option maxRecDepth 100000 in
theorem ml_L_135 : xML RL 135 yX6_slack cX6_slack 4 (some .int) 1 := ⟨gm_6 13 rfl rfl, in_X6, cd_X6_slack, ⟨by decide +kernel, by decide +kernel, by decide +kernel⟩, by decide⟩
set_option maxRecDepth 100000 in
theorem im_X6_slack : Cond.instanceMethod yX6_slack ∈ gt ∧ Cond.selects yX6_slack.cls yX6_slack yX6_slack ∈ gt := ⟨gm_6 14 rfl rfl, gm_6 15 rfl rfl⟩
set_option maxRecDepth 100000 in
theorem ml_L_139 : xML RL 139 yX6_find cX6_find 3 (some .int) 1 := ⟨gm_6 17 rfl rfl, in_X6, cd_X6_find, ⟨by decide +kernel, by decide +kernel, by decide +kernel⟩, by decide⟩
set_option maxRecDepth 100000 in
theorem im_X6_find : Cond.instanceMethod yX6_find ∈ gt ∧ Cond.selects yX6_find.cls yX6_find yX6_find ∈ gt := ⟨gm_6 18 rfl rfl, gm_6 19 rfl rfl⟩
set_option maxRecDepth 100000 in
theorem ml_X6_379 : xML RX6 379 yX6_holds cX6_holds 2 none 0 := ⟨gm_6 21 rfl rfl, in_X6, cd_X6_holds, ⟨by decide +kernel, by decide +kernel, by decide +kernel⟩, by decide⟩
set_option maxRecDepth 100000 in
theorem im_X6_holds : Cond.instanceMethod yX6_holds ∈ gt ∧ Cond.selects yX6_holds.cls yX6_holds yX6_holds ∈ gt := ⟨gm_6 23 rfl rfl, gm_0 93 rfl rfl⟩
set_option maxRecDepth 100000 in
theorem ml_X6_382 : xML RX6 382 yX6_unlike cX6_unlike 3 (some .int) 0 := ⟨gm_6 25 rfl rfl, in_X6, cd_X6_unlike, ⟨by decide +kernel, by decide +kernel, by decide +kernel⟩, by decide⟩
set_option maxRecDepth 100000 in
theorem im_X6_unlike : Cond.instanceMethod yX6_unlike ∈ gt ∧ Cond.selects yX6_unlike.cls yX6_unlike yX6_unlike ∈ gt := ⟨gm_6 27 rfl rfl, gm_0 94 rfl rfl⟩
set_option maxRecDepth 100000 in
theorem ml_L_143 : xML RL 143 yX6_laid cX6_laid 3 (some .int) 2 := ⟨gm_6 29 rfl rfl, in_X6, cd_X6_laid, ⟨by decide +kernel, by decide +kernel, by decide +kernel⟩, by decide⟩
set_option maxRecDepth 100000 in
theorem im_X6_laid : Cond.instanceMethod yX6_laid ∈ gt ∧ Cond.selects yX6_laid.cls yX6_laid yX6_laid ∈ gt := ⟨gm_6 30 rfl rfl, gm_6 31 rfl rfl⟩
set_option maxRecDepth 100000 in
theorem ml_L_147 : xML RL 147 yX6_part cX6_part 4 (some .int) 2 := ⟨gm_6 33 rfl rfl, in_X6, cd_X6_part, ⟨by decide +kernel, by decide +kernel, by decide +kernel⟩, by decide⟩
set_option maxRecDepth 100000 in
theorem im_X6_part : Cond.instanceMethod yX6_part ∈ gt ∧ Cond.selects yX6_part.cls yX6_part yX6_part ∈ gt := ⟨gm_6 34 rfl rfl, gm_6 35 rfl rfl⟩
set_option maxRecDepth 100000 in
theorem ml_L_151 : xML RL 151 yX6_hangs cX6_hangs 2 (some .int) 1 := ⟨gm_6 37 rfl rfl, in_X6, cd_X6_hangs, ⟨by decide +kernel, by decide +kernel, by decide +kernel⟩, by decide⟩
set_option maxRecDepth 100000 in
theorem im_X6_hangs : Cond.instanceMethod yX6_hangs ∈ gt ∧ Cond.selects yX6_hangs.cls yX6_hangs yX6_hangs ∈ gt := ⟨gm_6 38 rfl rfl, gm_6 39 rfl rfl⟩
set_option maxRecDepth 100000 in
theorem ml_L_155 : xML RL 155 yX6_far cX6_far 9 (some .int) 2 := ⟨gm_6 41 rfl rfl, in_X6, cd_X6_far, ⟨by decide +kernel, by decide +kernel, by decide +kernel⟩, by decide⟩
set_option maxRecDepth 100000 in
theorem im_X6_far : Cond.instanceMethod yX6_far ∈ gt ∧ Cond.selects yX6_far.cls yX6_far yX6_far ∈ gt := ⟨gm_6 42 rfl rfl, gm_6 43 rfl rfl⟩
set_option maxRecDepth 100000 in
theorem ml_L_159 : xML RL 159 yX6_twin cX6_twin 2 (some .int) 1 := ⟨gm_6 45 rfl rfl, in_X6, cd_X6_twin, ⟨by decide +kernel, by decide +kernel, by decide +kernel⟩, by decide⟩
set_option maxRecDepth 100000 in
theorem im_X6_twin : Cond.instanceMethod yX6_twin ∈ gt ∧ Cond.selects yX6_twin.cls yX6_twin yX6_twin ∈ gt := ⟨gm_6 46 rfl rfl, gm_6 47 rfl rfl⟩
set_option maxRecDepth 100000 in
theorem ml_L_164 : xML RL 164 yX6_called cX6_called 2 (some .long) 1 := ⟨gm_6 49 rfl rfl, in_X6, cd_X6_called, ⟨by decide +kernel, by decide +kernel, by decide +kernel⟩, by decide⟩
set_option maxRecDepth 100000 in
theorem im_X6_called : Cond.instanceMethod yX6_called ∈ gt ∧ Cond.selects yX6_called.cls yX6_called yX6_called ∈ gt := ⟨gm_6 50 rfl rfl, gm_6 51 rfl rfl⟩
set_option maxRecDepth 100000 in
theorem ml_L_169 : xML RL 169 yX6_named cX6_named 4 (some .int) 1 := ⟨gm_6 53 rfl rfl, in_X6, cd_X6_named, ⟨by decide +kernel, by decide +kernel, by decide +kernel⟩, by decide⟩
set_option maxRecDepth 100000 in
theorem im_X6_named : Cond.instanceMethod yX6_named ∈ gt ∧ Cond.selects yX6_named.cls yX6_named yX6_named ∈ gt := ⟨gm_6 54 rfl rfl, gm_6 55 rfl rfl⟩
set_option maxRecDepth 100000 in
theorem ml_L_173 : xML RL 173 yX6_count cX6_count 2 (some .int) 1 := ⟨gm_6 57 rfl rfl, in_X6, cd_X6_count, ⟨by decide +kernel, by decide +kernel, by decide +kernel⟩, by decide⟩
set_option maxRecDepth 100000 in
theorem im_X6_count : Cond.instanceMethod yX6_count ∈ gt ∧ Cond.selects yX6_count.cls yX6_count yX6_count ∈ gt := ⟨gm_6 58 rfl rfl, gm_6 59 rfl rfl⟩
set_option maxRecDepth 100000 in
theorem cl_L_7 : Cond.classLink RL 7 "TapePress" ∈ gt := gm_1 12 rfl rfl
set_option maxRecDepth 100000 in
theorem is_X5 : Cond.instantiable "TapePress" 14 ∈ gt := gm_1 13 rfl rfl
set_option maxRecDepth 100000 in
theorem cl_X5_9 : Cond.classLink RX5 9 "TapePress$Row" ∈ gt := gm_1 20 rfl rfl
set_option maxRecDepth 100000 in
theorem cl_X5_15 : Cond.classLink RX5 15 "TapePress$Strip" ∈ gt := gm_1 22 rfl rfl
set_option maxRecDepth 100000 in
theorem is_X3 : Cond.instantiable "TapePress$Strip" 2 ∈ gt := gm_1 23 rfl rfl
set_option maxRecDepth 100000 in
theorem ar_int : Cond.arrayClass .int ∈ gt := gm_1 38 rfl rfl
set_option maxRecDepth 100000 in
theorem cl_X5_30 : Cond.classLink RX5 30 "TapePress$Reader" ∈ gt := gm_1 39 rfl rfl
set_option maxRecDepth 100000 in
theorem is_X1 : Cond.instantiable "TapePress$Reader" 6 ∈ gt := gm_1 40 rfl rfl
set_option maxRecDepth 100000 in
theorem cl_X1_9 : Cond.classLink RX1 9 "TapePress$Row" ∈ gt := gm_1 45 rfl rfl
set_option maxRecDepth 100000 in
theorem is_X2 : Cond.instantiable "TapePress$Row" 4 ∈ gt := gm_1 46 rfl rfl
set_option maxRecDepth 100000 in
theorem im_X2_init : Cond.instanceMethod yX2_init ∈ gt ∧ yX2_init.name = "<init>" := ⟨gm_1 48 rfl rfl, rfl⟩
set_option maxRecDepth 100000 in
theorem ar_long : Cond.arrayClass .long ∈ gt := gm_1 74 rfl rfl
set_option maxRecDepth 100000 in
theorem cl_X5_39 : Cond.classLink RX5 39 "TapePress$Writer" ∈ gt := gm_1 98 rfl rfl
set_option maxRecDepth 100000 in
theorem is_X4 : Cond.instantiable "TapePress$Writer" 5 ∈ gt := gm_1 99 rfl rfl
set_option maxRecDepth 100000 in
theorem kc_X5_311 : Cond.constantLong RX5 311 (10460353202) ∈ gt := gm_1 174 rfl rfl
set_option maxRecDepth 100000 in
theorem kc_X5_313 : Cond.constantLong RX5 313 (27) ∈ gt := gm_1 175 rfl rfl
set_option maxRecDepth 100000 in
theorem kc_X5_309 : Cond.constantLong RX5 309 (12) ∈ gt := gm_1 214 rfl rfl
set_option maxRecDepth 100000 in
theorem kc_J6_264 : Cond.constant RJ6 264 (65536) ∈ gt := gm_2 80 rfl rfl
set_option maxRecDepth 100000 in
theorem kc_X0_31 : Cond.constantDouble RX0 31 (4593671619917905920) ∈ gt := gm_2 81 rfl rfl
set_option maxRecDepth 100000 in
theorem kc_X0_70 : Cond.constantLong RX0 70 (255) ∈ gt := gm_2 85 rfl rfl
set_option maxRecDepth 100000 in
theorem kc_X0_72 : Cond.constantLong RX0 72 (2047) ∈ gt := gm_2 86 rfl rfl
set_option maxRecDepth 100000 in
theorem kc_X0_65 : Cond.constantDouble RX0 65 (4611686018427387904) ∈ gt := gm_2 90 rfl rfl
set_option maxRecDepth 100000 in
theorem kc_X0_37 : Cond.constantDouble RX0 37 (4715268809856909312) ∈ gt := gm_2 94 rfl rfl
set_option maxRecDepth 100000 in
theorem kc_X0_39 : Cond.constantDouble RX0 39 (4845873199050653696) ∈ gt := gm_2 95 rfl rfl
set_option maxRecDepth 100000 in
theorem kc_X0_41 : Cond.constantDouble RX0 41 (4620693217682128896) ∈ gt := gm_2 96 rfl rfl
set_option maxRecDepth 100000 in
theorem kc_X0_43 : Cond.constantDouble RX0 43 (4602678819172646912) ∈ gt := gm_2 97 rfl rfl
set_option maxRecDepth 100000 in
theorem kc_X0_55 : Cond.constantLong RX0 55 (-1) ∈ gt := gm_2 107 rfl rfl
set_option maxRecDepth 100000 in
theorem kc_X0_26 : Cond.constantFloat RX0 26 (1040187392) ∈ gt := gm_2 126 rfl rfl
set_option maxRecDepth 100000 in
theorem kc_X5_315 : Cond.constantLong RX5 315 (6) ∈ gt := gm_2 152 rfl rfl
set_option maxRecDepth 100000 in
theorem kc_X5_317 : Cond.constantLong RX5 317 (3) ∈ gt := gm_2 157 rfl rfl
set_option maxRecDepth 100000 in
theorem kc_X4_108 : Cond.constantLong RX4 108 (-128) ∈ gt := gm_3 41 rfl rfl
set_option maxRecDepth 100000 in
theorem kc_X4_110 : Cond.constantLong RX4 110 (127) ∈ gt := gm_3 42 rfl rfl
set_option maxRecDepth 100000 in
theorem kc_X4_90 : Cond.constantLong RX4 90 (27) ∈ gt := gm_3 59 rfl rfl
set_option maxRecDepth 100000 in
theorem kc_X1_146 : Cond.constantLong RX1 146 (-1) ∈ gt := gm_3 133 rfl rfl
set_option maxRecDepth 100000 in
theorem kc_X1_130 : Cond.constantLong RX1 130 (65535) ∈ gt := gm_3 134 rfl rfl
set_option maxRecDepth 100000 in
theorem kc_X1_106 : Cond.constantLong RX1 106 (27) ∈ gt := gm_3 170 rfl rfl
set_option maxRecDepth 100000 in
theorem kc_X1_108 : Cond.constantLong RX1 108 (97) ∈ gt := gm_3 171 rfl rfl
set_option maxRecDepth 100000 in
theorem kc_X1_110 : Cond.constantLong RX1 110 (6) ∈ gt := gm_3 176 rfl rfl
set_option maxRecDepth 100000 in
theorem cl_L_10 : Cond.classLink RL 10 "TapePressModel" ∈ gt := gm_4 19 rfl rfl
set_option maxRecDepth 100000 in
theorem is_X6 : Cond.instantiable "TapePressModel" 33 ∈ gt := gm_4 20 rfl rfl
set_option maxRecDepth 100000 in
theorem kc_X6_69 : Cond.constantLong RX6 69 (27) ∈ gt := gm_4 25 rfl rfl
set_option maxRecDepth 100000 in
theorem kc_X6_71 : Cond.constantLong RX6 71 (96) ∈ gt := gm_4 26 rfl rfl
set_option maxRecDepth 100000 in
theorem kc_X6_141 : Cond.constantLong RX6 141 (13) ∈ gt := gm_4 131 rfl rfl
set_option maxRecDepth 100000 in
theorem kc_X6_143 : Cond.constantLong RX6 143 (12) ∈ gt := gm_4 135 rfl rfl
set_option maxRecDepth 100000 in
theorem kc_X6_145 : Cond.constantLong RX6 145 (5) ∈ gt := gm_4 136 rfl rfl
set_option maxRecDepth 100000 in
theorem kc_X6_119 : Cond.constantLong RX6 119 (11) ∈ gt := gm_4 155 rfl rfl
set_option maxRecDepth 100000 in
theorem kc_X6_190 : Cond.constantLong RX6 190 (7) ∈ gt := gm_4 200 rfl rfl
set_option maxRecDepth 100000 in
theorem kc_X6_91 : Cond.constantDouble RX6 91 (4611686018427387904) ∈ gt := gm_4 233 rfl rfl
set_option maxRecDepth 100000 in
theorem kc_X6_99 : Cond.constantLong RX6 99 (-9223372036854775808) ∈ gt := gm_5 0 rfl rfl
set_option maxRecDepth 100000 in
theorem kc_X6_97 : Cond.constantLong RX6 97 (2147483648) ∈ gt := gm_5 4 rfl rfl
set_option maxRecDepth 100000 in
theorem kc_X6_77 : Cond.constantLong RX6 77 (-128) ∈ gt := gm_5 12 rfl rfl
set_option maxRecDepth 100000 in
theorem kc_X6_79 : Cond.constantLong RX6 79 (127) ∈ gt := gm_5 13 rfl rfl
set_option maxRecDepth 100000 in
theorem kc_X6_81 : Cond.constantLong RX6 81 (65535) ∈ gt := gm_5 14 rfl rfl
set_option maxRecDepth 100000 in
theorem kc_X6_83 : Cond.constantLong RX6 83 (-32768) ∈ gt := gm_5 15 rfl rfl
set_option maxRecDepth 100000 in
theorem kc_X6_85 : Cond.constantLong RX6 85 (32767) ∈ gt := gm_5 16 rfl rfl
set_option maxRecDepth 100000 in
theorem kc_X6_87 : Cond.constantLong RX6 87 (-2147483648) ∈ gt := gm_5 17 rfl rfl
set_option maxRecDepth 100000 in
theorem kc_X6_89 : Cond.constantLong RX6 89 (2147483647) ∈ gt := gm_5 18 rfl rfl
set_option maxRecDepth 100000 in
theorem kc_X6_105 : Cond.constantFloat RX6 105 (1040187392) ∈ gt := gm_5 22 rfl rfl
set_option maxRecDepth 100000 in
theorem kc_X6_110 : Cond.constantDouble RX6 110 (4593671619917905920) ∈ gt := gm_5 23 rfl rfl
set_option maxRecDepth 100000 in
theorem kc_X6_136 : Cond.constantLong RX6 136 (3) ∈ gt := gm_5 44 rfl rfl
set_option maxRecDepth 100000 in
theorem kc_X6_229 : Cond.constantLong RX6 229 (4) ∈ gt := gm_5 85 rfl rfl
set_option maxRecDepth 100000 in
theorem kc_X6_304 : Cond.constantLong RX6 304 (2) ∈ gt := gm_5 94 rfl rfl
set_option maxRecDepth 100000 in
theorem kc_X6_238 : Cond.constantLong RX6 238 (255) ∈ gt := gm_5 127 rfl rfl
set_option maxRecDepth 100000 in
theorem kc_X6_248 : Cond.constantDouble RX6 248 (4620693217682128896) ∈ gt := gm_5 132 rfl rfl
set_option maxRecDepth 100000 in
theorem kc_X6_298 : Cond.constantLong RX6 298 (-1) ∈ gt := gm_5 211 rfl rfl
set_option maxRecDepth 100000 in
theorem kc_X6_300 : Cond.constantLong RX6 300 (16777216) ∈ gt := gm_5 215 rfl rfl
set_option maxRecDepth 100000 in
theorem kc_X6_302 : Cond.constantLong RX6 302 (9007199254740992) ∈ gt := gm_5 216 rfl rfl
set_option maxRecDepth 100000 in
theorem kc_X6_385 : Cond.constantLong RX6 385 (8) ∈ gt := gm_6 61 rfl rfl
set_option maxRecDepth 100000 in
theorem kc_L_13 : Cond.constantLong RL 13 (4294967295) ∈ gt := gm_6 62 rfl rfl
set_option maxRecDepth 100000 in
theorem oi_1 : Cond.instanceMethod objectInit ∈ gt := gm_1 18 rfl rfl
set_option maxRecDepth 100000 in
theorem oi_2 : Cond.code objectInit ⟨#[0xb1]⟩ 1 none ∈ gt := gm_1 19 rfl rfl
set_option maxRecDepth 100000 in
theorem ac_1 : Cond.native arraycopyName ∈ gt := gm_2 28 rfl rfl
set_option maxRecDepth 100000 in
theorem ac_2 : Cond.static arraycopyName ∈ gt := gm_2 27 rfl rfl
set_option maxRecDepth 100000 in
theorem mm_mins : Cond.static Lib.Math.min.name ∈ gt := gm_2 88 rfl rfl
set_option maxRecDepth 100000 in
theorem mm_minc : Cond.code Lib.Math.min.name Lib.Math.min.code 2 (some .int) ∈ gt := gm_2 89 rfl rfl
set_option maxRecDepth 100000 in
theorem mm_maxs : Cond.static Lib.Math.max.name ∈ gt := gm_2 182 rfl rfl
set_option maxRecDepth 100000 in
theorem mm_maxc : Cond.code Lib.Math.max.name Lib.Math.max.code 2 (some .int) ∈ gt := gm_2 183 rfl rfl
