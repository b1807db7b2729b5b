abbrev ws_SG_init : List Cond := .code y_SG_init b_SG_init 1 none :: lwT
set_option maxRecDepth 20000 in
theorem w_co_SG_init : Cond.code y_SG_init b_SG_init 1 none ∈ lwT := lwT_at 56 (by rfl) (by decide +kernel)
abbrev ws_Ob_init : List Cond := .code y_Ob_init b_Ob_init 1 none :: lwT
set_option maxRecDepth 20000 in
theorem w_co_Ob_init : Cond.code y_Ob_init b_Ob_init 1 none ∈ lwT := lwT_at 59 (by rfl) (by decide +kernel)
abbrev ws_Rd_init : List Cond := .code y_Rd_init b_Rd_init 1 none :: lwT
set_option maxRecDepth 20000 in
theorem w_co_Rd_init : Cond.code y_Rd_init b_Rd_init 1 none ∈ lwT := lwT_at 64 (by rfl) (by decide +kernel)
abbrev ws_Ck_init : List Cond := .code y_Ck_init b_Ck_init 1 none :: lwT
set_option maxRecDepth 20000 in
theorem w_co_Ck_init : Cond.code y_Ck_init b_Ck_init 1 none ∈ lwT := lwT_at 82 (by rfl) (by decide +kernel)
abbrev ws_Pr_init : List Cond := .code y_Pr_init b_Pr_init 1 none :: lwT
set_option maxRecDepth 20000 in
theorem w_co_Pr_init : Cond.code y_Pr_init b_Pr_init 1 none ∈ lwT := lwT_at 102 (by rfl) (by decide +kernel)
abbrev ws_Tw_init : List Cond := .code y_Tw_init b_Tw_init 1 none :: lwT
set_option maxRecDepth 20000 in
theorem w_co_Tw_init : Cond.code y_Tw_init b_Tw_init 1 none ∈ lwT := lwT_at 117 (by rfl) (by decide +kernel)
abbrev ws_Sp_init : List Cond := .code y_Sp_init b_Sp_init 1 none :: lwT
set_option maxRecDepth 20000 in
theorem w_co_Sp_init : Cond.code y_Sp_init b_Sp_init 1 none ∈ lwT := lwT_at 125 (by rfl) (by decide +kernel)
abbrev ws_Tn_init : List Cond := .code y_Tn_init b_Tn_init 1 none :: lwT
set_option maxRecDepth 20000 in
theorem w_co_Tn_init : Cond.code y_Tn_init b_Tn_init 1 none ∈ lwT := lwT_at 144 (by rfl) (by decide +kernel)
abbrev ws_SG_place : List Cond := .code y_SG_place b_SG_place 1 (some .int) :: lwT
set_option maxRecDepth 20000 in
theorem w_co_SG_place : Cond.code y_SG_place b_SG_place 1 (some .int) ∈ lwT := lwT_at 219 (by rfl) (by decide +kernel)
abbrev ws_SG_clear : List Cond := .code y_SG_clear b_SG_clear 2 (some .int) :: lwT
set_option maxRecDepth 20000 in
theorem w_co_SG_clear : Cond.code y_SG_clear b_SG_clear 2 (some .int) ∈ lwT := lwT_at 223 (by rfl) (by decide +kernel)
abbrev ws_SG_check : List Cond := .code y_SG_check b_SG_check 1 (some .int) :: lwT
set_option maxRecDepth 20000 in
theorem w_co_SG_check : Cond.code y_SG_check b_SG_check 1 (some .int) ∈ lwT := lwT_at 227 (by rfl) (by decide +kernel)
abbrev ws_Ck_lookAt : List Cond := .code y_Ck_lookAt b_Ck_lookAt 2 none :: lwT
set_option maxRecDepth 20000 in
theorem w_co_Ck_lookAt : Cond.code y_Ck_lookAt b_Ck_lookAt 2 none ∈ lwT := lwT_at 231 (by rfl) (by decide +kernel)
abbrev ws_Ck_findLostSpots : List Cond := .code y_Ck_findLostSpots b_Ck_findLostSpots 6 none :: lwT
set_option maxRecDepth 20000 in
theorem w_co_Ck_findLostSpots : Cond.code y_Ck_findLostSpots b_Ck_findLostSpots 6 none ∈ lwT := lwT_at 235 (by rfl) (by decide +kernel)
abbrev ws_Sp_has : List Cond := .code y_Sp_has b_Sp_has 2 (some .boolean) :: lwT
set_option maxRecDepth 20000 in
theorem w_co_Sp_has : Cond.code y_Sp_has b_Sp_has 2 (some .boolean) ∈ lwT := lwT_at 239 (by rfl) (by decide +kernel)
abbrev ws_Tw_find : List Cond := .code y_Tw_find b_Tw_find 2 (some (.object "StreetGraph$Piece")) :: lwT
set_option maxRecDepth 20000 in
theorem w_co_Tw_find : Cond.code y_Tw_find b_Tw_find 2 (some (.object "StreetGraph$Piece")) ∈ lwT := lwT_at 243 (by rfl) (by decide +kernel)
abbrev ws_Ck_add : List Cond := .code y_Ck_add b_Ck_add 3 none :: lwT
set_option maxRecDepth 20000 in
theorem w_co_Ck_add : Cond.code y_Ck_add b_Ck_add 3 none ∈ lwT := lwT_at 247 (by rfl) (by decide +kernel)
abbrev ws_Ck_findSameNames : List Cond := .code y_Ck_findSameNames b_Ck_findSameNames 3 none :: lwT
set_option maxRecDepth 20000 in
theorem w_co_Ck_findSameNames : Cond.code y_Ck_findSameNames b_Ck_findSameNames 3 none ∈ lwT := lwT_at 251 (by rfl) (by decide +kernel)
abbrev ws_Ck_hasNameOfLower : List Cond := .code y_Ck_hasNameOfLower b_Ck_hasNameOfLower 6 (some .boolean) :: lwT
set_option maxRecDepth 20000 in
theorem w_co_Ck_hasNameOfLower : Cond.code y_Ck_hasNameOfLower b_Ck_hasNameOfLower 6 (some .boolean) ∈ lwT := lwT_at 255 (by rfl) (by decide +kernel)
abbrev ws_Pc_isNamedLike : List Cond := .code y_Pc_isNamedLike b_Pc_isNamedLike 2 (some .boolean) :: lwT
set_option maxRecDepth 20000 in
theorem w_co_Pc_isNamedLike : Cond.code y_Pc_isNamedLike b_Pc_isNamedLike 2 (some .boolean) ∈ lwT := lwT_at 259 (by rfl) (by decide +kernel)
abbrev ws_Ck_findIdleTurns : List Cond := .code y_Ck_findIdleTurns b_Ck_findIdleTurns 5 none :: lwT
set_option maxRecDepth 20000 in
theorem w_co_Ck_findIdleTurns : Cond.code y_Ck_findIdleTurns b_Ck_findIdleTurns 5 none ∈ lwT := lwT_at 263 (by rfl) (by decide +kernel)
abbrev ws_Tw_leads : List Cond := .code y_Tw_leads b_Tw_leads 5 (some .boolean) :: lwT
set_option maxRecDepth 20000 in
theorem w_co_Tw_leads : Cond.code y_Tw_leads b_Tw_leads 5 (some .boolean) ∈ lwT := lwT_at 267 (by rfl) (by decide +kernel)
abbrev ws_Pc_leads : List Cond := .code y_Pc_leads b_Pc_leads 3 (some .boolean) :: lwT
set_option maxRecDepth 20000 in
theorem w_co_Pc_leads : Cond.code y_Pc_leads b_Pc_leads 3 (some .boolean) ∈ lwT := lwT_at 271 (by rfl) (by decide +kernel)
abbrev ws_Ck_findWalls : List Cond := .code y_Ck_findWalls b_Ck_findWalls 3 none :: lwT
set_option maxRecDepth 20000 in
theorem w_co_Ck_findWalls : Cond.code y_Ck_findWalls b_Ck_findWalls 3 none ∈ lwT := lwT_at 275 (by rfl) (by decide +kernel)
abbrev ws_Ck_isWall : List Cond := .code y_Ck_isWall b_Ck_isWall 4 (some .boolean) :: lwT
set_option maxRecDepth 20000 in
theorem w_co_Ck_isWall : Cond.code y_Ck_isWall b_Ck_isWall 4 (some .boolean) ∈ lwT := lwT_at 279 (by rfl) (by decide +kernel)
abbrev ws_Tn_has : List Cond := .code y_Tn_has b_Tn_has 5 (some .boolean) :: lwT
set_option maxRecDepth 20000 in
theorem w_co_Tn_has : Cond.code y_Tn_has b_Tn_has 5 (some .boolean) ∈ lwT := lwT_at 283 (by rfl) (by decide +kernel)
abbrev ws_Ck_findEnds : List Cond := .code y_Ck_findEnds b_Ck_findEnds 9 none :: lwT
set_option maxRecDepth 20000 in
theorem w_co_Ck_findEnds : Cond.code y_Ck_findEnds b_Ck_findEnds 9 none ∈ lwT := lwT_at 287 (by rfl) (by decide +kernel)
abbrev ws_Pc_nodesToWhichItGoes : List Cond := .code y_Pc_nodesToWhichItGoes b_Pc_nodesToWhichItGoes 1 (some .long) :: lwT
set_option maxRecDepth 20000 in
theorem w_co_Pc_nodesToWhichItGoes : Cond.code y_Pc_nodesToWhichItGoes b_Pc_nodesToWhichItGoes 1 (some .long) ∈ lwT := lwT_at 291 (by rfl) (by decide +kernel)
abbrev ws_Pc_ends : List Cond := .code y_Pc_ends b_Pc_ends 1 (some .long) :: lwT
set_option maxRecDepth 20000 in
theorem w_co_Pc_ends : Cond.code y_Pc_ends b_Pc_ends 1 (some .long) ∈ lwT := lwT_at 295 (by rfl) (by decide +kernel)
abbrev ws_Pc_nodesFromWhichItGoes : List Cond := .code y_Pc_nodesFromWhichItGoes b_Pc_nodesFromWhichItGoes 1 (some .long) :: lwT
set_option maxRecDepth 20000 in
theorem w_co_Pc_nodesFromWhichItGoes : Cond.code y_Pc_nodesFromWhichItGoes b_Pc_nodesFromWhichItGoes 1 (some .long) ∈ lwT := lwT_at 299 (by rfl) (by decide +kernel)
abbrev ws_Ck_findUnreachedStations : List Cond := .code y_Ck_findUnreachedStations b_Ck_findUnreachedStations 7 none :: lwT
set_option maxRecDepth 20000 in
theorem w_co_Ck_findUnreachedStations : Cond.code y_Ck_findUnreachedStations b_Ck_findUnreachedStations 7 none ∈ lwT := lwT_at 304 (by rfl) (by decide +kernel)
abbrev ws_Ck_nodesReachedFrom : List Cond := .code y_Ck_nodesReachedFrom b_Ck_nodesReachedFrom 11 (some .long) :: lwT
set_option maxRecDepth 20000 in
theorem w_co_Ck_nodesReachedFrom : Cond.code y_Ck_nodesReachedFrom b_Ck_nodesReachedFrom 11 (some .long) ∈ lwT := lwT_at 309 (by rfl) (by decide +kernel)
abbrev ws_Pc_isForWheels : List Cond := .code y_Pc_isForWheels b_Pc_isForWheels 1 (some .boolean) :: lwT
set_option maxRecDepth 20000 in
theorem w_co_Pc_isForWheels : Cond.code y_Pc_isForWheels b_Pc_isForWheels 1 (some .boolean) ∈ lwT := lwT_at 313 (by rfl) (by decide +kernel)
abbrev ws_SG_print : List Cond := .code y_SG_print b_SG_print 1 (some .int) :: lwT
set_option maxRecDepth 20000 in
theorem w_co_SG_print : Cond.code y_SG_print b_SG_print 1 (some .int) ∈ lwT := lwT_at 317 (by rfl) (by decide +kernel)
abbrev ws_Pr_putTown : List Cond := .code y_Pr_putTown b_Pr_putTown 4 none :: lwT
set_option maxRecDepth 20000 in
theorem w_co_Pr_putTown : Cond.code y_Pr_putTown b_Pr_putTown 4 none ∈ lwT := lwT_at 321 (by rfl) (by decide +kernel)
abbrev ws_Pr_putPiece : List Cond := .code y_Pr_putPiece b_Pr_putPiece 4 none :: lwT
set_option maxRecDepth 20000 in
theorem w_co_Pr_putPiece : Cond.code y_Pr_putPiece b_Pr_putPiece 4 none ∈ lwT := lwT_at 326 (by rfl) (by decide +kernel)
abbrev ws_Pr_putWithNumber : List Cond := .code y_Pr_putWithNumber b_Pr_putWithNumber 3 none :: lwT
set_option maxRecDepth 20000 in
theorem w_co_Pr_putWithNumber : Cond.code y_Pr_putWithNumber b_Pr_putWithNumber 3 none ∈ lwT := lwT_at 330 (by rfl) (by decide +kernel)
abbrev ws_Pr_put : List Cond := .code y_Pr_put b_Pr_put 2 none :: lwT
set_option maxRecDepth 20000 in
theorem w_co_Pr_put : Cond.code y_Pr_put b_Pr_put 2 none ∈ lwT := lwT_at 334 (by rfl) (by decide +kernel)
abbrev ws_Pr_signOf : List Cond := .code y_Pr_signOf b_Pr_signOf 1 (some .int) :: lwT
set_option maxRecDepth 20000 in
theorem w_co_Pr_signOf : Cond.code y_Pr_signOf b_Pr_signOf 1 (some .int) ∈ lwT := lwT_at 337 (by rfl) (by decide +kernel)
abbrev ws_St_length : List Cond := .code y_St_length b_St_length 1 (some .int) :: lwT
set_option maxRecDepth 20000 in
theorem w_co_St_length : Cond.code y_St_length b_St_length 1 (some .int) ∈ lwT := lwT_at 342 (by rfl) (by decide +kernel)
abbrev ws_St_coder : List Cond := .code y_St_coder b_St_coder 1 (some .byte) :: lwT
set_option maxRecDepth 20000 in
theorem w_co_St_coder : Cond.code y_St_coder b_St_coder 1 (some .byte) ∈ lwT := lwT_at 346 (by rfl) (by decide +kernel)
abbrev ws_St_charAt : List Cond := .code y_St_charAt b_St_charAt 2 (some .char) :: lwT
set_option maxRecDepth 20000 in
theorem w_co_St_charAt : Cond.code y_St_charAt b_St_charAt 2 (some .char) ∈ lwT := lwT_at 352 (by rfl) (by decide +kernel)
abbrev ws_St_isLatin1 : List Cond := .code y_St_isLatin1 b_St_isLatin1 1 (some .boolean) :: lwT
set_option maxRecDepth 20000 in
theorem w_co_St_isLatin1 : Cond.code y_St_isLatin1 b_St_isLatin1 1 (some .boolean) ∈ lwT := lwT_at 356 (by rfl) (by decide +kernel)
abbrev ws_Sl_charAt : List Cond := .code y_Sl_charAt b_Sl_charAt 2 (some .char) :: lwT
set_option maxRecDepth 20000 in
theorem w_co_Sl_charAt : Cond.code y_Sl_charAt b_Sl_charAt 2 (some .char) ∈ lwT := lwT_at 359 (by rfl) (by decide +kernel)
abbrev ws_St_checkIndex : List Cond := .code y_St_checkIndex b_St_checkIndex 2 none :: lwT
set_option maxRecDepth 20000 in
theorem w_co_St_checkIndex : Cond.code y_St_checkIndex b_St_checkIndex 2 none ∈ lwT := lwT_at 362 (by rfl) (by decide +kernel)
abbrev ws_Pk_checkIndex : List Cond := .code y_Pk_checkIndex b_Pk_checkIndex 3 (some .int) :: lwT
set_option maxRecDepth 20000 in
theorem w_co_Pk_checkIndex : Cond.code y_Pk_checkIndex b_Pk_checkIndex 3 (some .int) ∈ lwT := lwT_at 367 (by rfl) (by decide +kernel)
abbrev ws_Su_charAt : List Cond := .code y_Su_charAt b_Su_charAt 2 (some .char) :: lwT
set_option maxRecDepth 20000 in
theorem w_co_Su_charAt : Cond.code y_Su_charAt b_Su_charAt 2 (some .char) ∈ lwT := lwT_at 370 (by rfl) (by decide +kernel)
abbrev ws_Su_checkIndex : List Cond := .code y_Su_checkIndex b_Su_checkIndex 2 none :: lwT
set_option maxRecDepth 20000 in
theorem w_co_Su_checkIndex : Cond.code y_Su_checkIndex b_Su_checkIndex 2 none ∈ lwT := lwT_at 373 (by rfl) (by decide +kernel)
abbrev ws_Su_length : List Cond := .code y_Su_length b_Su_length 1 (some .int) :: lwT
set_option maxRecDepth 20000 in
theorem w_co_Su_length : Cond.code y_Su_length b_Su_length 1 (some .int) ∈ lwT := lwT_at 376 (by rfl) (by decide +kernel)
abbrev ws_Su_getChar : List Cond := .code y_Su_getChar b_Su_getChar 2 (some .char) :: lwT
set_option maxRecDepth 20000 in
theorem w_co_Su_getChar : Cond.code y_Su_getChar b_Su_getChar 2 (some .char) ∈ lwT := lwT_at 380 (by rfl) (by decide +kernel)
abbrev ws_Pr_putNameAndArea : List Cond := .code y_Pr_putNameAndArea b_Pr_putNameAndArea 3 none :: lwT
set_option maxRecDepth 20000 in
theorem w_co_Pr_putNameAndArea : Cond.code y_Pr_putNameAndArea b_Pr_putNameAndArea 3 none ∈ lwT := lwT_at 390 (by rfl) (by decide +kernel)
abbrev ws_Pc_letter : List Cond := .code y_Pc_letter b_Pc_letter 2 (some .int) :: lwT
set_option maxRecDepth 20000 in
theorem w_co_Pc_letter : Cond.code y_Pc_letter b_Pc_letter 2 (some .int) ∈ lwT := lwT_at 394 (by rfl) (by decide +kernel)
abbrev ws_Pr_putSpots : List Cond := .code y_Pr_putSpots b_Pr_putSpots 4 none :: lwT
set_option maxRecDepth 20000 in
theorem w_co_Pr_putSpots : Cond.code y_Pr_putSpots b_Pr_putSpots 4 none ∈ lwT := lwT_at 398 (by rfl) (by decide +kernel)
abbrev ws_Pr_putTurns : List Cond := .code y_Pr_putTurns b_Pr_putTurns 3 none :: lwT
set_option maxRecDepth 20000 in
theorem w_co_Pr_putTurns : Cond.code y_Pr_putTurns b_Pr_putTurns 3 none ∈ lwT := lwT_at 403 (by rfl) (by decide +kernel)
abbrev ws_SG_sign : List Cond := .code y_SG_sign b_SG_sign 5 (some .int) :: lwT
set_option maxRecDepth 20000 in
theorem w_co_SG_sign : Cond.code y_SG_sign b_SG_sign 5 (some .int) ∈ lwT := lwT_at 412 (by rfl) (by decide +kernel)
abbrev ws_Th_init : List Cond := .code y_Th_init b_Th_init 1 none :: lwT
set_option maxRecDepth 20000 in
theorem w_co_Th_init : Cond.code y_Th_init b_Th_init 1 none ∈ lwT := lwT_at 437 (by rfl) (by decide +kernel)
abbrev ws_IndexOutOfBoundsException_init : List Cond := .code y_IndexOutOfBoundsException_init b_IndexOutOfBoundsException_init 2 none :: lwT
set_option maxRecDepth 20000 in
theorem w_co_IndexOutOfBoundsException_init : Cond.code y_IndexOutOfBoundsException_init b_IndexOutOfBoundsException_init 2 none ∈ lwT := lwT_at 458 (by rfl) (by decide +kernel)
abbrev ws_RuntimeException_init : List Cond := .code y_RuntimeException_init b_RuntimeException_init 2 none :: lwT
set_option maxRecDepth 20000 in
theorem w_co_RuntimeException_init : Cond.code y_RuntimeException_init b_RuntimeException_init 2 none ∈ lwT := lwT_at 461 (by rfl) (by decide +kernel)
abbrev ws_Exception_init : List Cond := .code y_Exception_init b_Exception_init 2 none :: lwT
set_option maxRecDepth 20000 in
theorem w_co_Exception_init : Cond.code y_Exception_init b_Exception_init 2 none ∈ lwT := lwT_at 464 (by rfl) (by decide +kernel)
abbrev ws_Th_init_LjavalangStringV : List Cond := .code y_Th_init_LjavalangStringV b_Th_init_LjavalangStringV 2 none :: lwT
set_option maxRecDepth 20000 in
theorem w_co_Th_init_LjavalangStringV : Cond.code y_Th_init_LjavalangStringV b_Th_init_LjavalangStringV 2 none ∈ lwT := lwT_at 467 (by rfl) (by decide +kernel)
abbrev ws_Rd_room : List Cond := .code y_Rd_room b_Rd_room 1 (some .int) :: lwT
set_option maxRecDepth 20000 in
theorem w_co_Rd_room : Cond.code y_Rd_room b_Rd_room 1 (some .int) ∈ lwT := lwT_at 484 (by rfl) (by decide +kernel)
abbrev ws_UnsupportedOperationException_init : List Cond := .code y_UnsupportedOperationException_init b_UnsupportedOperationException_init 2 none :: lwT
set_option maxRecDepth 20000 in
theorem w_co_UnsupportedOperationException_init : Cond.code y_UnsupportedOperationException_init b_UnsupportedOperationException_init 2 none ∈ lwT := lwT_at 497 (by rfl) (by decide +kernel)
abbrev ws_Rd_append : List Cond := .code y_Rd_append b_Rd_append 2 none :: lwT
set_option maxRecDepth 20000 in
theorem w_co_Rd_append : Cond.code y_Rd_append b_Rd_append 2 none ∈ lwT := lwT_at 504 (by rfl) (by decide +kernel)
abbrev ws_SG_read : List Cond := .code y_SG_read b_SG_read 2 (some .int) :: lwT
set_option maxRecDepth 20000 in
theorem w_co_SG_read : Cond.code y_SG_read b_SG_read 2 (some .int) ∈ lwT := lwT_at 512 (by rfl) (by decide +kernel)
abbrev ws_Tw_copyFrom : List Cond := .code y_Tw_copyFrom b_Tw_copyFrom 3 none :: lwT
set_option maxRecDepth 20000 in
theorem w_co_Tw_copyFrom : Cond.code y_Tw_copyFrom b_Tw_copyFrom 3 none ∈ lwT := lwT_at 516 (by rfl) (by decide +kernel)
abbrev ws_Sp_copyFrom : List Cond := .code y_Sp_copyFrom b_Sp_copyFrom 3 none :: lwT
set_option maxRecDepth 20000 in
theorem w_co_Sp_copyFrom : Cond.code y_Sp_copyFrom b_Sp_copyFrom 3 none ∈ lwT := lwT_at 520 (by rfl) (by decide +kernel)
abbrev ws_Tn_copyFrom : List Cond := .code y_Tn_copyFrom b_Tn_copyFrom 3 none :: lwT
set_option maxRecDepth 20000 in
theorem w_co_Tn_copyFrom : Cond.code y_Tn_copyFrom b_Tn_copyFrom 3 none ∈ lwT := lwT_at 524 (by rfl) (by decide +kernel)
abbrev ws_Rd_readInto : List Cond := .code y_Rd_readInto b_Rd_readInto 4 (some .int) :: lwT
set_option maxRecDepth 20000 in
theorem w_co_Rd_readInto : Cond.code y_Rd_readInto b_Rd_readInto 4 (some .int) ∈ lwT := lwT_at 528 (by rfl) (by decide +kernel)
abbrev ws_Rd_peek : List Cond := .code y_Rd_peek b_Rd_peek 1 (some .int) :: lwT
set_option maxRecDepth 20000 in
theorem w_co_Rd_peek : Cond.code y_Rd_peek b_Rd_peek 1 (some .int) ∈ lwT := lwT_at 532 (by rfl) (by decide +kernel)
abbrev ws_Rd_skipBlanks : List Cond := .code y_Rd_skipBlanks b_Rd_skipBlanks 1 none :: lwT
set_option maxRecDepth 20000 in
theorem w_co_Rd_skipBlanks : Cond.code y_Rd_skipBlanks b_Rd_skipBlanks 1 none ∈ lwT := lwT_at 536 (by rfl) (by decide +kernel)
abbrev ws_Rd_readRow : List Cond := .code y_Rd_readRow b_Rd_readRow 2 (some .boolean) :: lwT
set_option maxRecDepth 20000 in
theorem w_co_Rd_readRow : Cond.code y_Rd_readRow b_Rd_readRow 2 (some .boolean) ∈ lwT := lwT_at 540 (by rfl) (by decide +kernel)
abbrev ws_Rd_readPiece : List Cond := .code y_Rd_readPiece b_Rd_readPiece 4 (some .boolean) :: lwT
set_option maxRecDepth 20000 in
theorem w_co_Rd_readPiece : Cond.code y_Rd_readPiece b_Rd_readPiece 4 (some .boolean) ∈ lwT := lwT_at 544 (by rfl) (by decide +kernel)
abbrev ws_Rd_readNumber : List Cond := .code y_Rd_readNumber b_Rd_readNumber 5 (some .int) :: lwT
set_option maxRecDepth 20000 in
theorem w_co_Rd_readNumber : Cond.code y_Rd_readNumber b_Rd_readNumber 5 (some .int) ∈ lwT := lwT_at 548 (by rfl) (by decide +kernel)
abbrev ws_Rd_isDigitHere : List Cond := .code y_Rd_isDigitHere b_Rd_isDigitHere 1 (some .boolean) :: lwT
set_option maxRecDepth 20000 in
theorem w_co_Rd_isDigitHere : Cond.code y_Rd_isDigitHere b_Rd_isDigitHere 1 (some .boolean) ∈ lwT := lwT_at 552 (by rfl) (by decide +kernel)
abbrev ws_Rd_take : List Cond := .code y_Rd_take b_Rd_take 2 (some .boolean) :: lwT
set_option maxRecDepth 20000 in
theorem w_co_Rd_take : Cond.code y_Rd_take b_Rd_take 2 (some .boolean) ∈ lwT := lwT_at 556 (by rfl) (by decide +kernel)
abbrev ws_Pc_init : List Cond := .code y_Pc_init b_Pc_init 1 none :: lwT
set_option maxRecDepth 20000 in
theorem w_co_Pc_init : Cond.code y_Pc_init b_Pc_init 1 none ∈ lwT := lwT_at 561 (by rfl) (by decide +kernel)
abbrev ws_Rd_readNodes : List Cond := .code y_Rd_readNodes b_Rd_readNodes 2 (some .boolean) :: lwT
set_option maxRecDepth 20000 in
theorem w_co_Rd_readNodes : Cond.code y_Rd_readNodes b_Rd_readNodes 2 (some .boolean) ∈ lwT := lwT_at 642 (by rfl) (by decide +kernel)
abbrev ws_Rd_readLengthKindSpeed : List Cond := .code y_Rd_readLengthKindSpeed b_Rd_readLengthKindSpeed 2 (some .boolean) :: lwT
set_option maxRecDepth 20000 in
theorem w_co_Rd_readLengthKindSpeed : Cond.code y_Rd_readLengthKindSpeed b_Rd_readLengthKindSpeed 2 (some .boolean) ∈ lwT := lwT_at 646 (by rfl) (by decide +kernel)
abbrev ws_Rd_kindOf : List Cond := .code y_Rd_kindOf b_Rd_kindOf 2 (some .int) :: lwT
set_option maxRecDepth 20000 in
theorem w_co_Rd_kindOf : Cond.code y_Rd_kindOf b_Rd_kindOf 2 (some .int) ∈ lwT := lwT_at 649 (by rfl) (by decide +kernel)
abbrev ws_Rd_readHours : List Cond := .code y_Rd_readHours b_Rd_readHours 6 (some .boolean) :: lwT
set_option maxRecDepth 20000 in
theorem w_co_Rd_readHours : Cond.code y_Rd_readHours b_Rd_readHours 6 (some .boolean) ∈ lwT := lwT_at 656 (by rfl) (by decide +kernel)
abbrev ws_Pc_addHours : List Cond := .code y_Pc_addHours b_Pc_addHours 4 none :: lwT
set_option maxRecDepth 20000 in
theorem w_co_Pc_addHours : Cond.code y_Pc_addHours b_Pc_addHours 4 none ∈ lwT := lwT_at 660 (by rfl) (by decide +kernel)
abbrev ws_Rd_readLimits : List Cond := .code y_Rd_readLimits b_Rd_readLimits 2 (some .boolean) :: lwT
set_option maxRecDepth 20000 in
theorem w_co_Rd_readLimits : Cond.code y_Rd_readLimits b_Rd_readLimits 2 (some .boolean) ∈ lwT := lwT_at 664 (by rfl) (by decide +kernel)
abbrev ws_Rd_readNameAndArea : List Cond := .code y_Rd_readNameAndArea b_Rd_readNameAndArea 3 (some .boolean) :: lwT
set_option maxRecDepth 20000 in
theorem w_co_Rd_readNameAndArea : Cond.code y_Rd_readNameAndArea b_Rd_readNameAndArea 3 (some .boolean) ∈ lwT := lwT_at 668 (by rfl) (by decide +kernel)
abbrev ws_Rd_isLetterHere : List Cond := .code y_Rd_isLetterHere b_Rd_isLetterHere 1 (some .boolean) :: lwT
set_option maxRecDepth 20000 in
theorem w_co_Rd_isLetterHere : Cond.code y_Rd_isLetterHere b_Rd_isLetterHere 1 (some .boolean) ∈ lwT := lwT_at 672 (by rfl) (by decide +kernel)
abbrev ws_Pc_addLetter : List Cond := .code y_Pc_addLetter b_Pc_addLetter 2 none :: lwT
set_option maxRecDepth 20000 in
theorem w_co_Pc_addLetter : Cond.code y_Pc_addLetter b_Pc_addLetter 2 none ∈ lwT := lwT_at 676 (by rfl) (by decide +kernel)
abbrev ws_Tw_put : List Cond := .code y_Tw_put b_Tw_put 3 none :: lwT
set_option maxRecDepth 20000 in
theorem w_co_Tw_put : Cond.code y_Tw_put b_Tw_put 3 none ∈ lwT := lwT_at 680 (by rfl) (by decide +kernel)
abbrev ws_Rd_readTurn : List Cond := .code y_Rd_readTurn b_Rd_readTurn 5 (some .boolean) :: lwT
set_option maxRecDepth 20000 in
theorem w_co_Rd_readTurn : Cond.code y_Rd_readTurn b_Rd_readTurn 5 (some .boolean) ∈ lwT := lwT_at 684 (by rfl) (by decide +kernel)
abbrev ws_Tn_add : List Cond := .code y_Tn_add b_Tn_add 4 none :: lwT
set_option maxRecDepth 20000 in
theorem w_co_Tn_add : Cond.code y_Tn_add b_Tn_add 4 none ∈ lwT := lwT_at 688 (by rfl) (by decide +kernel)
abbrev ws_Rd_readSpot : List Cond := .code y_Rd_readSpot b_Rd_readSpot 5 (some .boolean) :: lwT
set_option maxRecDepth 20000 in
theorem w_co_Rd_readSpot : Cond.code y_Rd_readSpot b_Rd_readSpot 5 (some .boolean) ∈ lwT := lwT_at 693 (by rfl) (by decide +kernel)
abbrev ws_Sp_put : List Cond := .code y_Sp_put b_Sp_put 4 none :: lwT
set_option maxRecDepth 20000 in
theorem w_co_Sp_put : Cond.code y_Sp_put b_Sp_put 4 none ∈ lwT := lwT_at 697 (by rfl) (by decide +kernel)
abbrev ws_Rd_readGone : List Cond := .code y_Rd_readGone b_Rd_readGone 4 (some .boolean) :: lwT
set_option maxRecDepth 20000 in
theorem w_co_Rd_readGone : Cond.code y_Rd_readGone b_Rd_readGone 4 (some .boolean) ∈ lwT := lwT_at 701 (by rfl) (by decide +kernel)
abbrev ws_IllegalStateException_init : List Cond := .code y_IllegalStateException_init b_IllegalStateException_init 2 none :: lwT
set_option maxRecDepth 20000 in
theorem w_co_IllegalStateException_init : Cond.code y_IllegalStateException_init b_IllegalStateException_init 2 none ∈ lwT := lwT_at 714 (by rfl) (by decide +kernel)
abbrev ws_Tw_pieceCount : List Cond := .code y_Tw_pieceCount b_Tw_pieceCount 3 (some .int) :: lwT
set_option maxRecDepth 20000 in
theorem w_co_Tw_pieceCount : Cond.code y_Tw_pieceCount b_Tw_pieceCount 3 (some .int) ∈ lwT := lwT_at 722 (by rfl) (by decide +kernel)
abbrev ws_SG_piece : List Cond := .code y_SG_piece b_SG_piece 4 (some .int) :: lwT
set_option maxRecDepth 20000 in
theorem w_co_SG_piece : Cond.code y_SG_piece b_SG_piece 4 (some .int) ∈ lwT := lwT_at 730 (by rfl) (by decide +kernel)
abbrev ws_IllegalArgumentException_init : List Cond := .code y_IllegalArgumentException_init b_IllegalArgumentException_init 2 none :: lwT
set_option maxRecDepth 20000 in
theorem w_co_IllegalArgumentException_init : Cond.code y_IllegalArgumentException_init b_IllegalArgumentException_init 2 none ∈ lwT := lwT_at 744 (by rfl) (by decide +kernel)
abbrev ws_SG_speed : List Cond := .code y_SG_speed b_SG_speed 4 (some .int) :: lwT
set_option maxRecDepth 20000 in
theorem w_co_SG_speed : Cond.code y_SG_speed b_SG_speed 4 (some .int) ∈ lwT := lwT_at 755 (by rfl) (by decide +kernel)
abbrev ws_Pc_speedAt : List Cond := .code y_Pc_speedAt b_Pc_speedAt 3 (some .int) :: lwT
set_option maxRecDepth 20000 in
theorem w_co_Pc_speedAt : Cond.code y_Pc_speedAt b_Pc_speedAt 3 (some .int) ∈ lwT := lwT_at 760 (by rfl) (by decide +kernel)
abbrev ws_SG_name : List Cond := .code y_SG_name b_SG_name 4 (some .int) :: lwT
set_option maxRecDepth 20000 in
theorem w_co_SG_name : Cond.code y_SG_name b_SG_name 4 (some .int) ∈ lwT := lwT_at 767 (by rfl) (by decide +kernel)
abbrev ws_SG_barred : List Cond := .code y_SG_barred b_SG_barred 4 (some .boolean) :: lwT
set_option maxRecDepth 20000 in
theorem w_co_SG_barred : Cond.code y_SG_barred b_SG_barred 4 (some .boolean) ∈ lwT := lwT_at 776 (by rfl) (by decide +kernel)
abbrev ws_SG_isNode : List Cond := .code y_SG_isNode b_SG_isNode 1 (some .boolean) :: lwT
set_option maxRecDepth 20000 in
theorem w_co_SG_isNode : Cond.code y_SG_isNode b_SG_isNode 1 (some .boolean) ∈ lwT := lwT_at 779 (by rfl) (by decide +kernel)
abbrev ws_SG_spot : List Cond := .code y_SG_spot b_SG_spot 4 (some .int) :: lwT
set_option maxRecDepth 20000 in
theorem w_co_SG_spot : Cond.code y_SG_spot b_SG_spot 4 (some .int) ∈ lwT := lwT_at 788 (by rfl) (by decide +kernel)
abbrev ws_SG_along : List Cond := .code y_SG_along b_SG_along 4 (some .int) :: lwT
set_option maxRecDepth 20000 in
theorem w_co_SG_along : Cond.code y_SG_along b_SG_along 4 (some .int) ∈ lwT := lwT_at 797 (by rfl) (by decide +kernel)
abbrev ws_SG_fault : List Cond := .code y_SG_fault b_SG_fault 3 (some .int) :: lwT
set_option maxRecDepth 20000 in
theorem w_co_SG_fault : Cond.code y_SG_fault b_SG_fault 3 (some .int) ∈ lwT := lwT_at 804 (by rfl) (by decide +kernel)
abbrev ws_SG_at : List Cond := .code y_SG_at b_SG_at 2 (some .int) :: lwT
set_option maxRecDepth 20000 in
theorem w_co_SG_at : Cond.code y_SG_at b_SG_at 2 (some .int) ∈ lwT := lwT_at 812 (by rfl) (by decide +kernel)
abbrev ws_SG_count : List Cond := .code y_SG_count b_SG_count 2 (some .int) :: lwT
set_option maxRecDepth 20000 in
theorem w_co_SG_count : Cond.code y_SG_count b_SG_count 2 (some .int) ∈ lwT := lwT_at 819 (by rfl) (by decide +kernel)
abbrev ws_Sp_size : List Cond := .code y_Sp_size b_Sp_size 3 (some .int) :: lwT
set_option maxRecDepth 20000 in
theorem w_co_Sp_size : Cond.code y_Sp_size b_Sp_size 3 (some .int) ∈ lwT := lwT_at 823 (by rfl) (by decide +kernel)
abbrev ws_Tw_nodes : List Cond := .code y_Tw_nodes b_Tw_nodes 5 (some .long) :: lwT
set_option maxRecDepth 20000 in
theorem w_co_Tw_nodes : Cond.code y_Tw_nodes b_Tw_nodes 5 (some .long) ∈ lwT := lwT_at 828 (by rfl) (by decide +kernel)
abbrev ws_Lg_bitCount : List Cond := .code y_Lg_bitCount b_Lg_bitCount 2 (some .int) :: lwT
set_option maxRecDepth 20000 in
theorem w_co_Lg_bitCount : Cond.code y_Lg_bitCount b_Lg_bitCount 2 (some .int) ∈ lwT := lwT_at 832 (by rfl) (by decide +kernel)
abbrev ws_Mo_init : List Cond := .code y_Mo_init b_Mo_init 1 none :: lwT
set_option maxRecDepth 20000 in
theorem w_co_Mo_init : Cond.code y_Mo_init b_Mo_init 1 none ∈ lwT := lwT_at 840 (by rfl) (by decide +kernel)
abbrev ws_Mo_thrown : List Cond := .code y_Mo_thrown b_Mo_thrown 1 (some .int) :: lwT
set_option maxRecDepth 20000 in
theorem w_co_Mo_thrown : Cond.code y_Mo_thrown b_Mo_thrown 1 (some .int) ∈ lwT := lwT_at 910 (by rfl) (by decide +kernel)
abbrev ws_Mo_sign : List Cond := .code y_Mo_sign b_Mo_sign 5 (some .int) :: lwT
set_option maxRecDepth 20000 in
theorem w_co_Mo_sign : Cond.code y_Mo_sign b_Mo_sign 5 (some .int) ∈ lwT := lwT_at 914 (by rfl) (by decide +kernel)
abbrev ws_Mo_in : List Cond := .code y_Mo_in b_Mo_in 3 (some .boolean) :: lwT
set_option maxRecDepth 20000 in
theorem w_co_Mo_in : Cond.code y_Mo_in b_Mo_in 3 (some .boolean) ∈ lwT := lwT_at 917 (by rfl) (by decide +kernel)
abbrev ws_Mo_read : List Cond := .code y_Mo_read b_Mo_read 2 (some .int) :: lwT
set_option maxRecDepth 20000 in
theorem w_co_Mo_read : Cond.code y_Mo_read b_Mo_read 2 (some .int) ∈ lwT := lwT_at 921 (by rfl) (by decide +kernel)
abbrev ws_Mo_see : List Cond := .code y_Mo_see b_Mo_see 1 (some .int) :: lwT
set_option maxRecDepth 20000 in
theorem w_co_Mo_see : Cond.code y_Mo_see b_Mo_see 1 (some .int) ∈ lwT := lwT_at 925 (by rfl) (by decide +kernel)
abbrev ws_Mo_here : List Cond := .code y_Mo_here b_Mo_here 1 (some .int) :: lwT
set_option maxRecDepth 20000 in
theorem w_co_Mo_here : Cond.code y_Mo_here b_Mo_here 1 (some .int) ∈ lwT := lwT_at 929 (by rfl) (by decide +kernel)
abbrev ws_Mo_pieceRow : List Cond := .code y_Mo_pieceRow b_Mo_pieceRow 4 none :: lwT
set_option maxRecDepth 20000 in
theorem w_co_Mo_pieceRow : Cond.code y_Mo_pieceRow b_Mo_pieceRow 4 none ∈ lwT := lwT_at 933 (by rfl) (by decide +kernel)
abbrev ws_Mo_number : List Cond := .code y_Mo_number b_Mo_number 5 (some .int) :: lwT
set_option maxRecDepth 20000 in
theorem w_co_Mo_number : Cond.code y_Mo_number b_Mo_number 5 (some .int) ∈ lwT := lwT_at 937 (by rfl) (by decide +kernel)
abbrev ws_Mo_isDigit : List Cond := .code y_Mo_isDigit b_Mo_isDigit 1 (some .boolean) :: lwT
set_option maxRecDepth 20000 in
theorem w_co_Mo_isDigit : Cond.code y_Mo_isDigit b_Mo_isDigit 1 (some .boolean) ∈ lwT := lwT_at 941 (by rfl) (by decide +kernel)
abbrev ws_Mo_fail : List Cond := .code y_Mo_fail b_Mo_fail 2 none :: lwT
set_option maxRecDepth 20000 in
theorem w_co_Mo_fail : Cond.code y_Mo_fail b_Mo_fail 2 none ∈ lwT := lwT_at 945 (by rfl) (by decide +kernel)
abbrev ws_Mo_take : List Cond := .code y_Mo_take b_Mo_take 2 none :: lwT
set_option maxRecDepth 20000 in
theorem w_co_Mo_take : Cond.code y_Mo_take b_Mo_take 2 none ∈ lwT := lwT_at 949 (by rfl) (by decide +kernel)
abbrev ws_Mo_kindOf : List Cond := .code y_Mo_kindOf b_Mo_kindOf 1 (some .int) :: lwT
set_option maxRecDepth 20000 in
theorem w_co_Mo_kindOf : Cond.code y_Mo_kindOf b_Mo_kindOf 1 (some .int) ∈ lwT := lwT_at 952 (by rfl) (by decide +kernel)
abbrev ws_Mo_isNext : List Cond := .code y_Mo_isNext b_Mo_isNext 2 (some .boolean) :: lwT
set_option maxRecDepth 20000 in
theorem w_co_Mo_isNext : Cond.code y_Mo_isNext b_Mo_isNext 2 (some .boolean) ∈ lwT := lwT_at 956 (by rfl) (by decide +kernel)
abbrev ws_Mo_hours : List Cond := .code y_Mo_hours b_Mo_hours 3 none :: lwT
set_option maxRecDepth 20000 in
theorem w_co_Mo_hours : Cond.code y_Mo_hours b_Mo_hours 3 none ∈ lwT := lwT_at 960 (by rfl) (by decide +kernel)
abbrev ws_Mo_nameRow : List Cond := .code y_Mo_nameRow b_Mo_nameRow 3 none :: lwT
set_option maxRecDepth 20000 in
theorem w_co_Mo_nameRow : Cond.code y_Mo_nameRow b_Mo_nameRow 3 none ∈ lwT := lwT_at 964 (by rfl) (by decide +kernel)
abbrev ws_Mo_barRow : List Cond := .code y_Mo_barRow b_Mo_barRow 4 none :: lwT
set_option maxRecDepth 20000 in
theorem w_co_Mo_barRow : Cond.code y_Mo_barRow b_Mo_barRow 4 none ∈ lwT := lwT_at 968 (by rfl) (by decide +kernel)
abbrev ws_Mo_isBarred : List Cond := .code y_Mo_isBarred b_Mo_isBarred 6 (some .boolean) :: lwT
set_option maxRecDepth 20000 in
theorem w_co_Mo_isBarred : Cond.code y_Mo_isBarred b_Mo_isBarred 6 (some .boolean) ∈ lwT := lwT_at 972 (by rfl) (by decide +kernel)
abbrev ws_Mo_spotRow : List Cond := .code y_Mo_spotRow b_Mo_spotRow 5 none :: lwT
set_option maxRecDepth 20000 in
theorem w_co_Mo_spotRow : Cond.code y_Mo_spotRow b_Mo_spotRow 5 none ∈ lwT := lwT_at 976 (by rfl) (by decide +kernel)
abbrev ws_Mo_goneRow : List Cond := .code y_Mo_goneRow b_Mo_goneRow 3 none :: lwT
set_option maxRecDepth 20000 in
theorem w_co_Mo_goneRow : Cond.code y_Mo_goneRow b_Mo_goneRow 3 none ∈ lwT := lwT_at 980 (by rfl) (by decide +kernel)
abbrev ws_Mo_pieces : List Cond := .code y_Mo_pieces b_Mo_pieces 3 (some .int) :: lwT
set_option maxRecDepth 20000 in
theorem w_co_Mo_pieces : Cond.code y_Mo_pieces b_Mo_pieces 3 (some .int) ∈ lwT := lwT_at 984 (by rfl) (by decide +kernel)
abbrev ws_Mo_place : List Cond := .code y_Mo_place b_Mo_place 1 (some .int) :: lwT
set_option maxRecDepth 20000 in
theorem w_co_Mo_place : Cond.code y_Mo_place b_Mo_place 1 (some .int) ∈ lwT := lwT_at 988 (by rfl) (by decide +kernel)
abbrev ws_Mo_piece : List Cond := .code y_Mo_piece b_Mo_piece 4 (some .int) :: lwT
set_option maxRecDepth 20000 in
theorem w_co_Mo_piece : Cond.code y_Mo_piece b_Mo_piece 4 (some .int) ∈ lwT := lwT_at 992 (by rfl) (by decide +kernel)
abbrev ws_Mo_isPiece : List Cond := .code y_Mo_isPiece b_Mo_isPiece 2 (some .boolean) :: lwT
set_option maxRecDepth 20000 in
theorem w_co_Mo_isPiece : Cond.code y_Mo_isPiece b_Mo_isPiece 2 (some .boolean) ∈ lwT := lwT_at 996 (by rfl) (by decide +kernel)
abbrev ws_Mo_asks : List Cond := .code y_Mo_asks b_Mo_asks 3 (some .boolean) :: lwT
set_option maxRecDepth 20000 in
theorem w_co_Mo_asks : Cond.code y_Mo_asks b_Mo_asks 3 (some .boolean) ∈ lwT := lwT_at 1000 (by rfl) (by decide +kernel)
abbrev ws_Mo_speed : List Cond := .code y_Mo_speed b_Mo_speed 5 (some .int) :: lwT
set_option maxRecDepth 20000 in
theorem w_co_Mo_speed : Cond.code y_Mo_speed b_Mo_speed 5 (some .int) ∈ lwT := lwT_at 1004 (by rfl) (by decide +kernel)
abbrev ws_Mo_name : List Cond := .code y_Mo_name b_Mo_name 3 (some .int) :: lwT
set_option maxRecDepth 20000 in
theorem w_co_Mo_name : Cond.code y_Mo_name b_Mo_name 3 (some .int) ∈ lwT := lwT_at 1008 (by rfl) (by decide +kernel)
abbrev ws_Mo_barred : List Cond := .code y_Mo_barred b_Mo_barred 4 (some .boolean) :: lwT
set_option maxRecDepth 20000 in
theorem w_co_Mo_barred : Cond.code y_Mo_barred b_Mo_barred 4 (some .boolean) ∈ lwT := lwT_at 1012 (by rfl) (by decide +kernel)
abbrev ws_Mo_isNode : List Cond := .code y_Mo_isNode b_Mo_isNode 1 (some .boolean) :: lwT
set_option maxRecDepth 20000 in
theorem w_co_Mo_isNode : Cond.code y_Mo_isNode b_Mo_isNode 1 (some .boolean) ∈ lwT := lwT_at 1015 (by rfl) (by decide +kernel)
abbrev ws_Mo_clear : List Cond := .code y_Mo_clear b_Mo_clear 2 (some .int) :: lwT
set_option maxRecDepth 20000 in
theorem w_co_Mo_clear : Cond.code y_Mo_clear b_Mo_clear 2 (some .int) ∈ lwT := lwT_at 1019 (by rfl) (by decide +kernel)
abbrev ws_Mo_spot : List Cond := .code y_Mo_spot b_Mo_spot 3 (some .int) :: lwT
set_option maxRecDepth 20000 in
theorem w_co_Mo_spot : Cond.code y_Mo_spot b_Mo_spot 3 (some .int) ∈ lwT := lwT_at 1023 (by rfl) (by decide +kernel)
abbrev ws_Mo_spotAt : List Cond := .code y_Mo_spotAt b_Mo_spotAt 2 (some .int) :: lwT
set_option maxRecDepth 20000 in
theorem w_co_Mo_spotAt : Cond.code y_Mo_spotAt b_Mo_spotAt 2 (some .int) ∈ lwT := lwT_at 1026 (by rfl) (by decide +kernel)
abbrev ws_Mo_along : List Cond := .code y_Mo_along b_Mo_along 4 (some .int) :: lwT
set_option maxRecDepth 20000 in
theorem w_co_Mo_along : Cond.code y_Mo_along b_Mo_along 4 (some .int) ∈ lwT := lwT_at 1030 (by rfl) (by decide +kernel)
abbrev ws_Mo_check : List Cond := .code y_Mo_check b_Mo_check 3 (some .int) :: lwT
set_option maxRecDepth 20000 in
theorem w_co_Mo_check : Cond.code y_Mo_check b_Mo_check 3 (some .int) ∈ lwT := lwT_at 1035 (by rfl) (by decide +kernel)
abbrev ws_Mo_isBad : List Cond := .code y_Mo_isBad b_Mo_isBad 2 (some .boolean) :: lwT
set_option maxRecDepth 20000 in
theorem w_co_Mo_isBad : Cond.code y_Mo_isBad b_Mo_isBad 2 (some .boolean) ∈ lwT := lwT_at 1039 (by rfl) (by decide +kernel)
abbrev ws_Mo_tells : List Cond := .code y_Mo_tells b_Mo_tells 4 none :: lwT
set_option maxRecDepth 20000 in
theorem w_co_Mo_tells : Cond.code y_Mo_tells b_Mo_tells 4 none ∈ lwT := lwT_at 1043 (by rfl) (by decide +kernel)
abbrev ws_Mo_hasTwin : List Cond := .code y_Mo_hasTwin b_Mo_hasTwin 7 (some .boolean) :: lwT
set_option maxRecDepth 20000 in
theorem w_co_Mo_hasTwin : Cond.code y_Mo_hasTwin b_Mo_hasTwin 7 (some .boolean) ∈ lwT := lwT_at 1047 (by rfl) (by decide +kernel)
abbrev ws_Mo_goes : List Cond := .code y_Mo_goes b_Mo_goes 8 (some .boolean) :: lwT
set_option maxRecDepth 20000 in
theorem w_co_Mo_goes : Cond.code y_Mo_goes b_Mo_goes 8 (some .boolean) ∈ lwT := lwT_at 1051 (by rfl) (by decide +kernel)
abbrev ws_Mo_isWall : List Cond := .code y_Mo_isWall b_Mo_isWall 3 (some .boolean) :: lwT
set_option maxRecDepth 20000 in
theorem w_co_Mo_isWall : Cond.code y_Mo_isWall b_Mo_isWall 3 (some .boolean) ∈ lwT := lwT_at 1055 (by rfl) (by decide +kernel)
abbrev ws_Mo_reached : List Cond := .code y_Mo_reached b_Mo_reached 6 none :: lwT
set_option maxRecDepth 20000 in
theorem w_co_Mo_reached : Cond.code y_Mo_reached b_Mo_reached 6 none ∈ lwT := lwT_at 1059 (by rfl) (by decide +kernel)
abbrev ws_Mo_stands : List Cond := .code y_Mo_stands b_Mo_stands 2 (some .boolean) :: lwT
set_option maxRecDepth 20000 in
theorem w_co_Mo_stands : Cond.code y_Mo_stands b_Mo_stands 2 (some .boolean) ∈ lwT := lwT_at 1063 (by rfl) (by decide +kernel)
abbrev ws_Mo_spreads : List Cond := .code y_Mo_spreads b_Mo_spreads 5 none :: lwT
set_option maxRecDepth 20000 in
theorem w_co_Mo_spreads : Cond.code y_Mo_spreads b_Mo_spreads 5 none ∈ lwT := lwT_at 1067 (by rfl) (by decide +kernel)
abbrev ws_Mo_isForWheels : List Cond := .code y_Mo_isForWheels b_Mo_isForWheels 2 (some .boolean) :: lwT
set_option maxRecDepth 20000 in
theorem w_co_Mo_isForWheels : Cond.code y_Mo_isForWheels b_Mo_isForWheels 2 (some .boolean) ∈ lwT := lwT_at 1071 (by rfl) (by decide +kernel)
abbrev ws_Mo_fault : List Cond := .code y_Mo_fault b_Mo_fault 3 (some .int) :: lwT
set_option maxRecDepth 20000 in
theorem w_co_Mo_fault : Cond.code y_Mo_fault b_Mo_fault 3 (some .int) ∈ lwT := lwT_at 1075 (by rfl) (by decide +kernel)
abbrev ws_Mo_print : List Cond := .code y_Mo_print b_Mo_print 2 (some .int) :: lwT
set_option maxRecDepth 20000 in
theorem w_co_Mo_print : Cond.code y_Mo_print b_Mo_print 2 (some .int) ∈ lwT := lwT_at 1079 (by rfl) (by decide +kernel)
abbrev ws_Mo_printPiece : List Cond := .code y_Mo_printPiece b_Mo_printPiece 5 none :: lwT
set_option maxRecDepth 20000 in
theorem w_co_Mo_printPiece : Cond.code y_Mo_printPiece b_Mo_printPiece 5 none ∈ lwT := lwT_at 1083 (by rfl) (by decide +kernel)
abbrev ws_Mo_putNumber : List Cond := .code y_Mo_putNumber b_Mo_putNumber 3 none :: lwT
set_option maxRecDepth 20000 in
theorem w_co_Mo_putNumber : Cond.code y_Mo_putNumber b_Mo_putNumber 3 none ∈ lwT := lwT_at 1087 (by rfl) (by decide +kernel)
abbrev ws_Mo_put : List Cond := .code y_Mo_put b_Mo_put 2 none :: lwT
set_option maxRecDepth 20000 in
theorem w_co_Mo_put : Cond.code y_Mo_put b_Mo_put 2 none ∈ lwT := lwT_at 1091 (by rfl) (by decide +kernel)
abbrev ws_Mo_at : List Cond := .code y_Mo_at b_Mo_at 2 (some .int) :: lwT
set_option maxRecDepth 20000 in
theorem w_co_Mo_at : Cond.code y_Mo_at b_Mo_at 2 (some .int) ∈ lwT := lwT_at 1095 (by rfl) (by decide +kernel)
abbrev ws_Mo_count : List Cond := .code y_Mo_count b_Mo_count 4 (some .int) :: lwT
set_option maxRecDepth 20000 in
theorem w_co_Mo_count : Cond.code y_Mo_count b_Mo_count 4 (some .int) ∈ lwT := lwT_at 1099 (by rfl) (by decide +kernel)
