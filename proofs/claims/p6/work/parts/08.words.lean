theorem cat_int (v : Int32) : (Value.int v).category = 1 := rfl
theorem cat_long (v : Int64) : (Value.long v).category = 2 := rfl
theorem tb1 {w : Cond} (h : w ∈ tables_1_1) : w ∈ lw_tbl := List.mem_append_right _ (show w ∈ tables_1_1 ++ (tables_1_2 ++ (tables_1_3 ++ (tables_1_4 ++ (tables_1_5 ++ (tables_1_6 ++ (tables_1_7 ++ tables_1_8)))))) from List.mem_append_left _ h)
theorem tb2 {w : Cond} (h : w ∈ tables_1_2) : w ∈ lw_tbl := List.mem_append_right _ (show w ∈ tables_1_1 ++ (tables_1_2 ++ (tables_1_3 ++ (tables_1_4 ++ (tables_1_5 ++ (tables_1_6 ++ (tables_1_7 ++ tables_1_8)))))) from List.mem_append_right _ (List.mem_append_left _ h))
theorem tb3 {w : Cond} (h : w ∈ tables_1_3) : w ∈ lw_tbl := List.mem_append_right _ (show w ∈ tables_1_1 ++ (tables_1_2 ++ (tables_1_3 ++ (tables_1_4 ++ (tables_1_5 ++ (tables_1_6 ++ (tables_1_7 ++ tables_1_8)))))) from List.mem_append_right _ (List.mem_append_right _ (List.mem_append_left _ h)))
theorem tb4 {w : Cond} (h : w ∈ tables_1_4) : w ∈ lw_tbl := List.mem_append_right _ (show w ∈ tables_1_1 ++ (tables_1_2 ++ (tables_1_3 ++ (tables_1_4 ++ (tables_1_5 ++ (tables_1_6 ++ (tables_1_7 ++ tables_1_8)))))) from List.mem_append_right _ (List.mem_append_right _ (List.mem_append_right _ (List.mem_append_left _ h))))
theorem tb5 {w : Cond} (h : w ∈ tables_1_5) : w ∈ lw_tbl := List.mem_append_right _ (show w ∈ tables_1_1 ++ (tables_1_2 ++ (tables_1_3 ++ (tables_1_4 ++ (tables_1_5 ++ (tables_1_6 ++ (tables_1_7 ++ tables_1_8)))))) from List.mem_append_right _ (List.mem_append_right _ (List.mem_append_right _ (List.mem_append_right _ (List.mem_append_left _ h)))))
theorem tb6 {w : Cond} (h : w ∈ tables_1_6) : w ∈ lw_tbl := List.mem_append_right _ (show w ∈ tables_1_1 ++ (tables_1_2 ++ (tables_1_3 ++ (tables_1_4 ++ (tables_1_5 ++ (tables_1_6 ++ (tables_1_7 ++ tables_1_8)))))) from List.mem_append_right _ (List.mem_append_right _ (List.mem_append_right _ (List.mem_append_right _ (List.mem_append_right _ (List.mem_append_left _ h))))))
theorem tb7 {w : Cond} (h : w ∈ tables_1_7) : w ∈ lw_tbl := List.mem_append_right _ (show w ∈ tables_1_1 ++ (tables_1_2 ++ (tables_1_3 ++ (tables_1_4 ++ (tables_1_5 ++ (tables_1_6 ++ (tables_1_7 ++ tables_1_8)))))) from List.mem_append_right _ (List.mem_append_right _ (List.mem_append_right _ (List.mem_append_right _ (List.mem_append_right _ (List.mem_append_right _ (List.mem_append_left _ h)))))))
theorem tb8 {w : Cond} (h : w ∈ tables_1_8) : w ∈ lw_tbl := List.mem_append_right _ (show w ∈ tables_1_1 ++ (tables_1_2 ++ (tables_1_3 ++ (tables_1_4 ++ (tables_1_5 ++ (tables_1_6 ++ (tables_1_7 ++ tables_1_8)))))) from List.mem_append_right _ (List.mem_append_right _ (List.mem_append_right _ (List.mem_append_right _ (List.mem_append_right _ (List.mem_append_right _ (List.mem_append_right _ (h))))))))
theorem wpriv {q : MethodName × Nat} (h : q ∈ lw_privs) : Cond.selects q.1.cls q.1 q.1 ∈ AL := AL_in (List.mem_append_left _ (List.mem_map.mpr ⟨q, h, rfl⟩)) rfl
theorem wa_B : Cond.arrayClass .byte ∈ AL := AL_in (tb1 (List.mem_of_getElem? (i := 58) rfl)) rfl
theorem wa_I : Cond.arrayClass .int ∈ AL := AL_in (tb1 (List.mem_of_getElem? (i := 103) rfl)) rfl
theorem wa_J : Cond.arrayClass .long ∈ AL := AL_in (tb7 (List.mem_of_getElem? (i := 89) rfl)) rfl
theorem wa_S : Cond.arrayClass .short ∈ AL := AL_in (tb7 (List.mem_of_getElem? (i := 88) rfl)) rfl
theorem wa_Z : Cond.arrayClass .boolean ∈ AL := AL_in (tb2 (List.mem_of_getElem? (i := 189) rfl)) rfl
theorem wc_J7_fill_53178 : Cond.code yJ7_fill_53178 cJ7_fill_53178 4 (none) ∈ AL := AL_in (tb4 (List.mem_of_getElem? (i := 50) rfl)) rfl
theorem wc_X0_begin : Cond.code yX0_begin cX0_begin 4 (some (FieldType.boolean)) ∈ AL := AL_in (tb4 (List.mem_of_getElem? (i := 10) rfl)) rfl
theorem wc_X0_bitsFrom : Cond.code yX0_bitsFrom cX0_bitsFrom 7 (some (FieldType.long)) ∈ AL := AL_in (tb4 (List.mem_of_getElem? (i := 24) rfl)) rfl
theorem wc_X0_init : Cond.code yX0_init cX0_init 1 (none) ∈ AL := AL_in (tb1 (List.mem_of_getElem? (i := 108) rfl)) rfl
theorem wc_X0_look : Cond.code yX0_look cX0_look 3 (some (FieldType.int)) ∈ AL := AL_in (tb4 (List.mem_of_getElem? (i := 197) rfl)) rfl
theorem wc_X0_take : Cond.code yX0_take cX0_take 2 (some (FieldType.long)) ∈ AL := AL_in (tb4 (List.mem_of_getElem? (i := 20) rfl)) rfl
theorem wc_X10_baseAt : Cond.code yX10_baseAt cX10_baseAt 2 (some (FieldType.int)) ∈ AL := AL_in (tb4 (List.mem_of_getElem? (i := 38) rfl)) rfl
theorem wc_X10_bitsAt : Cond.code yX10_bitsAt cX10_bitsAt 2 (some (FieldType.int)) ∈ AL := AL_in (tb4 (List.mem_of_getElem? (i := 30) rfl)) rfl
theorem wc_X10_build : Cond.code yX10_build cX10_build 8 (none) ∈ AL := AL_in (tb2 (List.mem_of_getElem? (i := 34) rfl)) rfl
theorem wc_X10_buildDefault : Cond.code yX10_buildDefault cX10_buildDefault 3 (none) ∈ AL := AL_in (tb2 (List.mem_of_getElem? (i := 16) rfl)) rfl
theorem wc_X10_buildFor : Cond.code yX10_buildFor cX10_buildFor 9 (none) ∈ AL := AL_in (tb6 (List.mem_of_getElem? (i := 13) rfl)) rfl
theorem wc_X10_buildOnly : Cond.code yX10_buildOnly cX10_buildOnly 2 (none) ∈ AL := AL_in (tb4 (List.mem_of_getElem? (i := 231) rfl)) rfl
theorem wc_X10_firstPlace : Cond.code yX10_firstPlace cX10_firstPlace 3 (some (FieldType.int)) ∈ AL := AL_in (tb6 (List.mem_of_getElem? (i := 42) rfl)) rfl
theorem wc_X10_init : Cond.code yX10_init cX10_init 1 (none) ∈ AL := AL_in (tb1 (List.mem_of_getElem? (i := 69) rfl)) rfl
theorem wc_X10_mostCounted : Cond.code yX10_mostCounted cX10_mostCounted 3 (some (FieldType.int)) ∈ AL := AL_in (tb6 (List.mem_of_getElem? (i := 18) rfl)) rfl
theorem wc_X10_placeBefore : Cond.code yX10_placeBefore cX10_placeBefore 5 (some (FieldType.int)) ∈ AL := AL_in (tb6 (List.mem_of_getElem? (i := 50) rfl)) rfl
theorem wc_X10_read : Cond.code yX10_read cX10_read 12 (some (FieldType.int)) ∈ AL := AL_in (tb3 (List.mem_of_getElem? (i := 238) rfl)) rfl
theorem wc_X10_spread : Cond.code yX10_spread cX10_spread 8 (none) ∈ AL := AL_in (tb2 (List.mem_of_getElem? (i := 41) rfl)) rfl
theorem wc_X10_symbolAt : Cond.code yX10_symbolAt cX10_symbolAt 2 (some (FieldType.int)) ∈ AL := AL_in (tb2 (List.mem_of_getElem? (i := 45) rfl)) rfl
theorem wc_X10_takeBits : Cond.code yX10_takeBits cX10_takeBits 5 (some (FieldType.int)) ∈ AL := AL_in (tb4 (List.mem_of_getElem? (i := 2) rfl)) rfl
theorem wc_X10_takeCount : Cond.code yX10_takeCount cX10_takeCount 5 (some (FieldType.int)) ∈ AL := AL_in (tb4 (List.mem_of_getElem? (i := 6) rfl)) rfl
theorem wc_X10_write : Cond.code yX10_write cX10_write 5 (none) ∈ AL := AL_in (tb6 (List.mem_of_getElem? (i := 22) rfl)) rfl
theorem wc_X10_writeCount : Cond.code yX10_writeCount cX10_writeCount 7 (none) ∈ AL := AL_in (tb6 (List.mem_of_getElem? (i := 27) rfl)) rfl
theorem wc_X10_writeZeros : Cond.code yX10_writeZeros cX10_writeZeros 4 (none) ∈ AL := AL_in (tb6 (List.mem_of_getElem? (i := 31) rfl)) rfl
theorem wc_X11_complete : Cond.code yX11_complete cX11_complete 3 (some (FieldType.boolean)) ∈ AL := AL_in (tb4 (List.mem_of_getElem? (i := 42) rfl)) rfl
theorem wc_X11_endWith : Cond.code yX11_endWith cX11_endWith 2 (some (FieldType.boolean)) ∈ AL := AL_in (tb4 (List.mem_of_getElem? (i := 34) rfl)) rfl
theorem wc_X11_init : Cond.code yX11_init cX11_init 1 (none) ∈ AL := AL_in (tb1 (List.mem_of_getElem? (i := 63) rfl)) rfl
theorem wc_X11_join : Cond.code yX11_join cX11_join 5 (some (FieldType.int)) ∈ AL := AL_in (tb5 (List.mem_of_getElem? (i := 204) rfl)) rfl
theorem wc_X11_least : Cond.code yX11_least cX11_least 4 (some (FieldType.int)) ∈ AL := AL_in (tb5 (List.mem_of_getElem? (i := 208) rfl)) rfl
theorem wc_X11_make : Cond.code yX11_make cX11_make 4 (none) ∈ AL := AL_in (tb5 (List.mem_of_getElem? (i := 199) rfl)) rfl
theorem wc_X11_read : Cond.code yX11_read cX11_read 7 (some (FieldType.int)) ∈ AL := AL_in (tb3 (List.mem_of_getElem? (i := 228) rfl)) rfl
theorem wc_X11_readHalves : Cond.code yX11_readHalves cX11_readHalves 5 (none) ∈ AL := AL_in (tb3 (List.mem_of_getElem? (i := 233) rfl)) rfl
theorem wc_X11_readInTurn : Cond.code yX11_readInTurn cX11_readInTurn 5 (some (FieldType.boolean)) ∈ AL := AL_in (tb4 (List.mem_of_getElem? (i := 16) rfl)) rfl
theorem wc_X12_again : Cond.code yX12_again cX12_again 3 (some (FieldType.int)) ∈ AL := AL_in (tb3 (List.mem_of_getElem? (i := 189) rfl)) rfl
theorem wc_X12_baseOf : Cond.code yX12_baseOf cX12_baseOf 1 (some ((FieldType.array FieldType.int))) ∈ AL := AL_in (tb5 (List.mem_of_getElem? (i := 17) rfl)) rfl
theorem wc_X12_bits : Cond.code yX12_bits cX12_bits 2 (some (FieldType.int)) ∈ AL := AL_in (tb6 (List.mem_of_getElem? (i := 92) rfl)) rfl
theorem wc_X12_cut : Cond.code yX12_cut cX12_cut 3 (some (FieldType.int)) ∈ AL := AL_in (tb3 (List.mem_of_getElem? (i := 185) rfl)) rfl
theorem wc_X12_differ : Cond.code yX12_differ cX12_differ 3 (some (FieldType.int)) ∈ AL := AL_in (tb3 (List.mem_of_getElem? (i := 203) rfl)) rfl
theorem wc_X12_extraOf : Cond.code yX12_extraOf cX12_extraOf 1 (some ((FieldType.array FieldType.int))) ∈ AL := AL_in (tb5 (List.mem_of_getElem? (i := 24) rfl)) rfl
theorem wc_X12_feed : Cond.code yX12_feed cX12_feed 5 (some (FieldType.int)) ∈ AL := AL_in (tb3 (List.mem_of_getElem? (i := 155) rfl)) rfl
theorem wc_X12_fill : Cond.code yX12_fill cX12_fill 6 (some (FieldType.int)) ∈ AL := AL_in (tb3 (List.mem_of_getElem? (i := 163) rfl)) rfl
theorem wc_X12_init : Cond.code yX12_init cX12_init 3 (none) ∈ AL := AL_in (tb1 (List.mem_of_getElem? (i := 22) rfl)) rfl
theorem wc_X12_keep : Cond.code yX12_keep cX12_keep 2 (some (FieldType.int)) ∈ AL := AL_in (tb3 (List.mem_of_getElem? (i := 208) rfl)) rfl
theorem wc_X12_logOf : Cond.code yX12_logOf cX12_logOf 4 (some (FieldType.int)) ∈ AL := AL_in (tb2 (List.mem_of_getElem? (i := 48) rfl)) rfl
theorem wc_X12_offsetOf : Cond.code yX12_offsetOf cX12_offsetOf 5 (some (FieldType.long)) ∈ AL := AL_in (tb5 (List.mem_of_getElem? (i := 42) rfl)) rfl
theorem wc_X12_open : Cond.code yX12_open cX12_open 3 (some (FieldType.int)) ∈ AL := AL_in (tb4 (List.mem_of_getElem? (i := 73) rfl)) rfl
theorem wc_X12_out : Cond.code yX12_out cX12_out 2 (some (FieldType.int)) ∈ AL := AL_in (tb6 (List.mem_of_getElem? (i := 68) rfl)) rfl
theorem wc_X12_pack : Cond.code yX12_pack cX12_pack 4 (some (FieldType.int)) ∈ AL := AL_in (tb5 (List.mem_of_getElem? (i := 119) rfl)) rfl
theorem wc_X12_place : Cond.code yX12_place cX12_place 1 (some (FieldType.int)) ∈ AL := AL_in (tb5 (List.mem_of_getElem? (i := 115) rfl)) rfl
theorem wc_X12_remember : Cond.code yX12_remember cX12_remember 3 (none) ∈ AL := AL_in (tb5 (List.mem_of_getElem? (i := 64) rfl)) rfl
theorem wc_X12_rememberFirst : Cond.code yX12_rememberFirst cX12_rememberFirst 2 (none) ∈ AL := AL_in (tb3 (List.mem_of_getElem? (i := 219) rfl)) rfl
theorem wc_X12_round : Cond.code yX12_round cX12_round 4 (some (FieldType.long)) ∈ AL := AL_in (tb5 (List.mem_of_getElem? (i := 97) rfl)) rfl
theorem wc_X12_sequence : Cond.code yX12_sequence cX12_sequence 3 (some (FieldType.int)) ∈ AL := AL_in (tb6 (List.mem_of_getElem? (i := 81) rfl)) rfl
theorem wc_X12_set : Cond.code yX12_set cX12_set 4 (some (FieldType.int)) ∈ AL := AL_in (tb3 (List.mem_of_getElem? (i := 173) rfl)) rfl
theorem wc_X12_size : Cond.code yX12_size cX12_size 1 (some (FieldType.int)) ∈ AL := AL_in (tb3 (List.mem_of_getElem? (i := 169) rfl)) rfl
theorem wc_X12_spareCameOut : Cond.code yX12_spareCameOut cX12_spareCameOut 2 (none) ∈ AL := AL_in (tb5 (List.mem_of_getElem? (i := 111) rfl)) rfl
theorem wc_X12_sum : Cond.code yX12_sum cX12_sum 4 (some (FieldType.int)) ∈ AL := AL_in (tb6 (List.mem_of_getElem? (i := 72) rfl)) rfl
theorem wc_X12_swap : Cond.code yX12_swap cX12_swap 2 (some (FieldType.int)) ∈ AL := AL_in (tb3 (List.mem_of_getElem? (i := 199) rfl)) rfl
theorem wc_X12_table : Cond.code yX12_table cX12_table 5 (some (FieldType.int)) ∈ AL := AL_in (tb6 (List.mem_of_getElem? (i := 85) rfl)) rfl
theorem wc_X12_told : Cond.code yX12_told cX12_told 2 (some (FieldType.int)) ∈ AL := AL_in (tb6 (List.mem_of_getElem? (i := 77) rfl)) rfl
theorem wc_X12_turn : Cond.code yX12_turn cX12_turn 3 (some (FieldType.long)) ∈ AL := AL_in (tb5 (List.mem_of_getElem? (i := 101) rfl)) rfl
theorem wc_X12_unusedDictionary : Cond.code yX12_unusedDictionary cX12_unusedDictionary 2 (some ((FieldType.object "TabledFrames$Dictionary"))) ∈ AL := AL_in (tb3 (List.mem_of_getElem? (i := 212) rfl)) rfl
theorem wc_X12_whichOf : Cond.code yX12_whichOf cX12_whichOf 3 (some (FieldType.int)) ∈ AL := AL_in (tb5 (List.mem_of_getElem? (i := 45) rfl)) rfl
theorem wc_X13_again : Cond.code yX13_again cX13_again 4 (some (FieldType.int)) ∈ AL := AL_in (tb7 (List.mem_of_getElem? (i := 115) rfl)) rfl
theorem wc_X13_all : Cond.code yX13_all cX13_all 15 (none) ∈ AL := AL_in (tb8 (List.mem_of_getElem? (i := 57) rfl)) rfl
theorem wc_X13_alone : Cond.code yX13_alone cX13_alone 3 (none) ∈ AL := AL_in (tb8 (List.mem_of_getElem? (i := 53) rfl)) rfl
theorem wc_X13_areCoded : Cond.code yX13_areCoded cX13_areCoded 2 (some (FieldType.boolean)) ∈ AL := AL_in (tb8 (List.mem_of_getElem? (i := 134) rfl)) rfl
theorem wc_X13_areSame : Cond.code yX13_areSame cX13_areSame 5 (some (FieldType.boolean)) ∈ AL := AL_in (tb8 (List.mem_of_getElem? (i := 114) rfl)) rfl
theorem wc_X13_back : Cond.code yX13_back cX13_back 5 (some (FieldType.long)) ∈ AL := AL_in (tb7 (List.mem_of_getElem? (i := 202) rfl)) rfl
theorem wc_X13_begin : Cond.code yX13_begin cX13_begin 4 (none) ∈ AL := AL_in (tb8 (List.mem_of_getElem? (i := 15) rfl)) rfl
theorem wc_X13_bit : Cond.code yX13_bit cX13_bit 4 (none) ∈ AL := AL_in (tb8 (List.mem_of_getElem? (i := 188) rfl)) rfl
theorem wc_X13_bits : Cond.code yX13_bits cX13_bits 2 (some (FieldType.int)) ∈ AL := AL_in (tb8 (List.mem_of_getElem? (i := 97) rfl)) rfl
theorem wc_X13_blockAt : Cond.code yX13_blockAt cX13_blockAt 6 (some (FieldType.boolean)) ∈ AL := AL_in (tb8 (List.mem_of_getElem? (i := 21) rfl)) rfl
theorem wc_X13_code : Cond.code yX13_code cX13_code 9 (some (FieldType.int)) ∈ AL := AL_in (tb7 (List.mem_of_getElem? (i := 171) rfl)) rfl
theorem wc_X13_codeOf : Cond.code yX13_codeOf cX13_codeOf 10 (some (FieldType.boolean)) ∈ AL := AL_in (tb7 (List.mem_of_getElem? (i := 206) rfl)) rfl
theorem wc_X13_content : Cond.code yX13_content cX13_content 3 (none) ∈ AL := AL_in (tb7 (List.mem_of_getElem? (i := 163) rfl)) rfl
theorem wc_X13_copyBase : Cond.code yX13_copyBase cX13_copyBase 1 (some (FieldType.int)) ∈ AL := AL_in (tb8 (List.mem_of_getElem? (i := 60) rfl)) rfl
theorem wc_X13_copyBits : Cond.code yX13_copyBits cX13_copyBits 1 (some (FieldType.int)) ∈ AL := AL_in (tb8 (List.mem_of_getElem? (i := 63) rfl)) rfl
theorem wc_X13_copyCode : Cond.code yX13_copyCode cX13_copyCode 4 (none) ∈ AL := AL_in (tb7 (List.mem_of_getElem? (i := 224) rfl)) rfl
theorem wc_X13_copySymbol : Cond.code yX13_copySymbol cX13_copySymbol 2 (some (FieldType.int)) ∈ AL := AL_in (tb8 (List.mem_of_getElem? (i := 176) rfl)) rfl
theorem wc_X13_copyTable : Cond.code yX13_copyTable cX13_copyTable 4 (none) ∈ AL := AL_in (tb7 (List.mem_of_getElem? (i := 220) rfl)) rfl
theorem wc_X13_cut : Cond.code yX13_cut cX13_cut 3 (some (FieldType.int)) ∈ AL := AL_in (tb7 (List.mem_of_getElem? (i := 111) rfl)) rfl
theorem wc_X13_defaults : Cond.code yX13_defaults cX13_defaults 4 (none) ∈ AL := AL_in (tb8 (List.mem_of_getElem? (i := 49) rfl)) rfl
theorem wc_X13_depths : Cond.code yX13_depths cX13_depths 7 (some (FieldType.int)) ∈ AL := AL_in (tb8 (List.mem_of_getElem? (i := 142) rfl)) rfl
theorem wc_X13_differ : Cond.code yX13_differ cX13_differ 3 (some (FieldType.int)) ∈ AL := AL_in (tb7 (List.mem_of_getElem? (i := 123) rfl)) rfl
theorem wc_X13_digit : Cond.code yX13_digit cX13_digit 5 (none) ∈ AL := AL_in (tb8 (List.mem_of_getElem? (i := 159) rfl)) rfl
theorem wc_X13_eight : Cond.code yX13_eight cX13_eight 6 (some (FieldType.long)) ∈ AL := AL_in (tb7 (List.mem_of_getElem? (i := 145) rfl)) rfl
theorem wc_X13_fails : Cond.code yX13_fails cX13_fails 3 (some (FieldType.boolean)) ∈ AL := AL_in (tb7 (List.mem_of_getElem? (i := 216) rfl)) rfl
theorem wc_X13_feed : Cond.code yX13_feed cX13_feed 5 (some (FieldType.int)) ∈ AL := AL_in (tb7 (List.mem_of_getElem? (i := 93) rfl)) rfl
theorem wc_X13_fill : Cond.code yX13_fill cX13_fill 6 (some (FieldType.int)) ∈ AL := AL_in (tb7 (List.mem_of_getElem? (i := 97) rfl)) rfl
theorem wc_X13_findActs : Cond.code yX13_findActs cX13_findActs 10 (none) ∈ AL := AL_in (tb8 (List.mem_of_getElem? (i := 118) rfl)) rfl
theorem wc_X13_forward : Cond.code yX13_forward cX13_forward 4 (some (FieldType.int)) ∈ AL := AL_in (tb7 (List.mem_of_getElem? (i := 187) rfl)) rfl
theorem wc_X13_frame : Cond.code yX13_frame cX13_frame 8 (none) ∈ AL := AL_in (tb7 (List.mem_of_getElem? (i := 232) rfl)) rfl
theorem wc_X13_goOn : Cond.code yX13_goOn cX13_goOn 4 (none) ∈ AL := AL_in (tb8 (List.mem_of_getElem? (i := 196) rfl)) rfl
theorem wc_X13_greatest : Cond.code yX13_greatest cX13_greatest 1 (some (FieldType.int)) ∈ AL := AL_in (tb7 (List.mem_of_getElem? (i := 209) rfl)) rfl
theorem wc_X13_head : Cond.code yX13_head cX13_head 8 (none) ∈ AL := AL_in (tb8 (List.mem_of_getElem? (i := 3) rfl)) rfl
theorem wc_X13_init : Cond.code yX13_init cX13_init 1 (none) ∈ AL := AL_in (tb6 (List.mem_of_getElem? (i := 97) rfl)) rfl
theorem wc_X13_keep : Cond.code yX13_keep cX13_keep 3 (some (FieldType.int)) ∈ AL := AL_in (tb7 (List.mem_of_getElem? (i := 158) rfl)) rfl
theorem wc_X13_least : Cond.code yX13_least cX13_least 4 (some (FieldType.int)) ∈ AL := AL_in (tb8 (List.mem_of_getElem? (i := 146) rfl)) rfl
theorem wc_X13_letterBase : Cond.code yX13_letterBase cX13_letterBase 1 (some (FieldType.int)) ∈ AL := AL_in (tb8 (List.mem_of_getElem? (i := 66) rfl)) rfl
theorem wc_X13_letterBits : Cond.code yX13_letterBits cX13_letterBits 1 (some (FieldType.int)) ∈ AL := AL_in (tb8 (List.mem_of_getElem? (i := 69) rfl)) rfl
theorem wc_X13_letterSymbol : Cond.code yX13_letterSymbol cX13_letterSymbol 2 (some (FieldType.int)) ∈ AL := AL_in (tb8 (List.mem_of_getElem? (i := 170) rfl)) rfl
theorem wc_X13_lettersFrom : Cond.code yX13_lettersFrom cX13_lettersFrom 12 (some (FieldType.int)) ∈ AL := AL_in (tb8 (List.mem_of_getElem? (i := 29) rfl)) rfl
theorem wc_X13_log : Cond.code yX13_log cX13_log 2 (some (FieldType.int)) ∈ AL := AL_in (tb7 (List.mem_of_getElem? (i := 190) rfl)) rfl
theorem wc_X13_logLong : Cond.code yX13_logLong cX13_logLong 3 (some (FieldType.int)) ∈ AL := AL_in (tb8 (List.mem_of_getElem? (i := 173) rfl)) rfl
theorem wc_X13_meant : Cond.code yX13_meant cX13_meant 3 (some (FieldType.int)) ∈ AL := AL_in (tb8 (List.mem_of_getElem? (i := 76) rfl)) rfl
theorem wc_X13_mostLog : Cond.code yX13_mostLog cX13_mostLog 1 (some (FieldType.int)) ∈ AL := AL_in (tb7 (List.mem_of_getElem? (i := 212) rfl)) rfl
theorem wc_X13_noCounts : Cond.code yX13_noCounts cX13_noCounts 2 (none) ∈ AL := AL_in (tb7 (List.mem_of_getElem? (i := 183) rfl)) rfl
theorem wc_X13_offsetOf : Cond.code yX13_offsetOf cX13_offsetOf 8 (some (FieldType.long)) ∈ AL := AL_in (tb8 (List.mem_of_getElem? (i := 81) rfl)) rfl
theorem wc_X13_open : Cond.code yX13_open cX13_open 4 (some (FieldType.int)) ∈ AL := AL_in (tb7 (List.mem_of_getElem? (i := 228) rfl)) rfl
theorem wc_X13_out : Cond.code yX13_out cX13_out 2 (some (FieldType.int)) ∈ AL := AL_in (tb7 (List.mem_of_getElem? (i := 127) rfl)) rfl
theorem wc_X13_pack : Cond.code yX13_pack cX13_pack 11 (some (FieldType.int)) ∈ AL := AL_in (tb8 (List.mem_of_getElem? (i := 101) rfl)) rfl
theorem wc_X13_packed : Cond.code yX13_packed cX13_packed 4 (none) ∈ AL := AL_in (tb8 (List.mem_of_getElem? (i := 25) rfl)) rfl
theorem wc_X13_place : Cond.code yX13_place cX13_place 1 (some (FieldType.int)) ∈ AL := AL_in (tb7 (List.mem_of_getElem? (i := 131) rfl)) rfl
theorem wc_X13_reversed : Cond.code yX13_reversed cX13_reversed 3 (some (FieldType.boolean)) ∈ AL := AL_in (tb7 (List.mem_of_getElem? (i := 198) rfl)) rfl
theorem wc_X13_round : Cond.code yX13_round cX13_round 4 (some (FieldType.long)) ∈ AL := AL_in (tb7 (List.mem_of_getElem? (i := 148) rfl)) rfl
theorem wc_X13_say : Cond.code yX13_say cX13_say 5 (none) ∈ AL := AL_in (tb8 (List.mem_of_getElem? (i := 106) rfl)) rfl
theorem wc_X13_sayBlock : Cond.code yX13_sayBlock cX13_sayBlock 10 (none) ∈ AL := AL_in (tb8 (List.mem_of_getElem? (i := 110) rfl)) rfl
theorem wc_X13_sayCode : Cond.code yX13_sayCode cX13_sayCode 4 (none) ∈ AL := AL_in (tb8 (List.mem_of_getElem? (i := 138) rfl)) rfl
theorem wc_X13_sayCounts : Cond.code yX13_sayCounts cX13_sayCounts 10 (none) ∈ AL := AL_in (tb8 (List.mem_of_getElem? (i := 184) rfl)) rfl
theorem wc_X13_sayDigits : Cond.code yX13_sayDigits cX13_sayDigits 6 (none) ∈ AL := AL_in (tb8 (List.mem_of_getElem? (i := 163) rfl)) rfl
theorem wc_X13_sayHead : Cond.code yX13_sayHead cX13_sayHead 2 (none) ∈ AL := AL_in (tb8 (List.mem_of_getElem? (i := 130) rfl)) rfl
theorem wc_X13_sayLetters : Cond.code yX13_sayLetters cX13_sayLetters 9 (none) ∈ AL := AL_in (tb8 (List.mem_of_getElem? (i := 126) rfl)) rfl
theorem wc_X13_saySequences : Cond.code yX13_saySequences cX13_saySequences 8 (none) ∈ AL := AL_in (tb8 (List.mem_of_getElem? (i := 167) rfl)) rfl
theorem wc_X13_sayStreams : Cond.code yX13_sayStreams cX13_sayStreams 7 (some (FieldType.int)) ∈ AL := AL_in (tb8 (List.mem_of_getElem? (i := 151) rfl)) rfl
theorem wc_X13_sayTable : Cond.code yX13_sayTable cX13_sayTable 7 (some (FieldType.int)) ∈ AL := AL_in (tb8 (List.mem_of_getElem? (i := 180) rfl)) rfl
theorem wc_X13_sections : Cond.code yX13_sections cX13_sections 7 (none) ∈ AL := AL_in (tb8 (List.mem_of_getElem? (i := 41) rfl)) rfl
theorem wc_X13_sequence : Cond.code yX13_sequence cX13_sequence 18 (none) ∈ AL := AL_in (tb8 (List.mem_of_getElem? (i := 73) rfl)) rfl
theorem wc_X13_sequence_ : Cond.code yX13_sequence_ cX13_sequence_ 3 (some (FieldType.int)) ∈ AL := AL_in (tb8 (List.mem_of_getElem? (i := 89) rfl)) rfl
theorem wc_X13_set : Cond.code yX13_set cX13_set 4 (some (FieldType.int)) ∈ AL := AL_in (tb7 (List.mem_of_getElem? (i := 107) rfl)) rfl
theorem wc_X13_size : Cond.code yX13_size cX13_size 1 (some (FieldType.int)) ∈ AL := AL_in (tb7 (List.mem_of_getElem? (i := 103) rfl)) rfl
theorem wc_X13_sized : Cond.code yX13_sized cX13_sized 14 (none) ∈ AL := AL_in (tb8 (List.mem_of_getElem? (i := 8) rfl)) rfl
theorem wc_X13_states : Cond.code yX13_states cX13_states 9 (none) ∈ AL := AL_in (tb8 (List.mem_of_getElem? (i := 192) rfl)) rfl
theorem wc_X13_stream : Cond.code yX13_stream cX13_stream 12 (some (FieldType.boolean)) ∈ AL := AL_in (tb8 (List.mem_of_getElem? (i := 37) rfl)) rfl
theorem wc_X13_stream_ : Cond.code yX13_stream_ cX13_stream_ 7 (none) ∈ AL := AL_in (tb8 (List.mem_of_getElem? (i := 155) rfl)) rfl
theorem wc_X13_streams : Cond.code yX13_streams cX13_streams 9 (some (FieldType.boolean)) ∈ AL := AL_in (tb8 (List.mem_of_getElem? (i := 33) rfl)) rfl
theorem wc_X13_sum : Cond.code yX13_sum cX13_sum 4 (some (FieldType.int)) ∈ AL := AL_in (tb7 (List.mem_of_getElem? (i := 135) rfl)) rfl
theorem wc_X13_sumOf : Cond.code yX13_sumOf cX13_sumOf 15 (some (FieldType.long)) ∈ AL := AL_in (tb7 (List.mem_of_getElem? (i := 138) rfl)) rfl
theorem wc_X13_swap : Cond.code yX13_swap cX13_swap 4 (some (FieldType.int)) ∈ AL := AL_in (tb7 (List.mem_of_getElem? (i := 119) rfl)) rfl
theorem wc_X13_table : Cond.code yX13_table cX13_table 9 (none) ∈ AL := AL_in (tb7 (List.mem_of_getElem? (i := 194) rfl)) rfl
theorem wc_X13_table_ : Cond.code yX13_table_ cX13_table_ 5 (some (FieldType.int)) ∈ AL := AL_in (tb8 (List.mem_of_getElem? (i := 93) rfl)) rfl
theorem wc_X13_tabled : Cond.code yX13_tabled cX13_tabled 5 (some (FieldType.int)) ∈ AL := AL_in (tb7 (List.mem_of_getElem? (i := 167) rfl)) rfl
theorem wc_X13_told : Cond.code yX13_told cX13_told 2 (some (FieldType.int)) ∈ AL := AL_in (tb8 (List.mem_of_getElem? (i := 85) rfl)) rfl
theorem wc_X13_toldCounts : Cond.code yX13_toldCounts cX13_toldCounts 13 (some (FieldType.int)) ∈ AL := AL_in (tb7 (List.mem_of_getElem? (i := 179) rfl)) rfl
theorem wc_X13_toldTable : Cond.code yX13_toldTable cX13_toldTable 6 (some (FieldType.boolean)) ∈ AL := AL_in (tb8 (List.mem_of_getElem? (i := 45) rfl)) rfl
theorem wc_X13_toldWeights : Cond.code yX13_toldWeights cX13_toldWeights 10 (some (FieldType.int)) ∈ AL := AL_in (tb7 (List.mem_of_getElem? (i := 175) rfl)) rfl
theorem wc_X13_turn : Cond.code yX13_turn cX13_turn 3 (some (FieldType.long)) ∈ AL := AL_in (tb7 (List.mem_of_getElem? (i := 151) rfl)) rfl
theorem wc_X13_valueOf : Cond.code yX13_valueOf cX13_valueOf 5 (some (FieldType.long)) ∈ AL := AL_in (tb8 (List.mem_of_getElem? (i := 122) rfl)) rfl
theorem wc_X13_wants : Cond.code yX13_wants cX13_wants 2 (some (FieldType.boolean)) ∈ AL := AL_in (tb7 (List.mem_of_getElem? (i := 236) rfl)) rfl
theorem wc_X1_build : Cond.code yX1_build cX1_build 6 (none) ∈ AL := AL_in (tb4 (List.mem_of_getElem? (i := 47) rfl)) rfl
theorem wc_X1_init : Cond.code yX1_init cX1_init 1 (none) ∈ AL := AL_in (tb1 (List.mem_of_getElem? (i := 196) rfl)) rfl
theorem wc_X1_lengthOf : Cond.code yX1_lengthOf cX1_lengthOf 6 (some (FieldType.int)) ∈ AL := AL_in (tb5 (List.mem_of_getElem? (i := 214) rfl)) rfl
theorem wc_X1_symbolOf : Cond.code yX1_symbolOf cX1_symbolOf 2 (some (FieldType.int)) ∈ AL := AL_in (tb4 (List.mem_of_getElem? (i := 202) rfl)) rfl
theorem wc_X2_init : Cond.code yX2_init cX2_init 2 (none) ∈ AL := AL_in (tb1 (List.mem_of_getElem? (i := 188) rfl)) rfl
theorem wc_X2_read : Cond.code yX2_read cX2_read 4 (some (FieldType.boolean)) ∈ AL := AL_in (tb3 (List.mem_of_getElem? (i := 216) rfl)) rfl
theorem wc_X2_readRemembered : Cond.code yX2_readRemembered cX2_readRemembered 6 (some (FieldType.boolean)) ∈ AL := AL_in (tb4 (List.mem_of_getElem? (i := 64) rfl)) rfl
theorem wc_X2_readTable : Cond.code yX2_readTable cX2_readTable 4 (some (FieldType.int)) ∈ AL := AL_in (tb4 (List.mem_of_getElem? (i := 55) rfl)) rfl
theorem wc_X2_takeContent : Cond.code yX2_takeContent cX2_takeContent 2 (none) ∈ AL := AL_in (tb4 (List.mem_of_getElem? (i := 68) rfl)) rfl
theorem wc_X3_begin : Cond.code yX3_begin cX3_begin 3 (none) ∈ AL := AL_in (tb5 (List.mem_of_getElem? (i := 140) rfl)) rfl
theorem wc_X3_chainOf : Cond.code yX3_chainOf cX3_chainOf 3 (some (FieldType.int)) ∈ AL := AL_in (tb5 (List.mem_of_getElem? (i := 167) rfl)) rfl
theorem wc_X3_find : Cond.code yX3_find cX3_find 7 (none) ∈ AL := AL_in (tb5 (List.mem_of_getElem? (i := 155) rfl)) rfl
theorem wc_X3_findBest : Cond.code yX3_findBest cX3_findBest 7 (none) ∈ AL := AL_in (tb5 (List.mem_of_getElem? (i := 159) rfl)) rfl
theorem wc_X3_init : Cond.code yX3_init cX3_init 1 (none) ∈ AL := AL_in (tb3 (List.mem_of_getElem? (i := 20) rfl)) rfl
theorem wc_X3_linkUpTo : Cond.code yX3_linkUpTo cX3_linkUpTo 3 (none) ∈ AL := AL_in (tb5 (List.mem_of_getElem? (i := 163) rfl)) rfl
theorem wc_X3_sameFrom : Cond.code yX3_sameFrom cX3_sameFrom 6 (some (FieldType.int)) ∈ AL := AL_in (tb5 (List.mem_of_getElem? (i := 173) rfl)) rfl
theorem wc_X4_beginFrame : Cond.code yX4_beginFrame cX4_beginFrame 2 (none) ∈ AL := AL_in (tb4 (List.mem_of_getElem? (i := 138) rfl)) rfl
theorem wc_X4_coded : Cond.code yX4_coded cX4_coded 1 (some (FieldType.boolean)) ∈ AL := AL_in (tb4 (List.mem_of_getElem? (i := 170) rfl)) rfl
theorem wc_X4_init : Cond.code yX4_init cX4_init 3 (none) ∈ AL := AL_in (tb2 (List.mem_of_getElem? (i := 61) rfl)) rfl
theorem wc_X4_readBody : Cond.code yX4_readBody cX4_readBody 3 (some (FieldType.boolean)) ∈ AL := AL_in (tb4 (List.mem_of_getElem? (i := 183) rfl)) rfl
theorem wc_X4_readCode : Cond.code yX4_readCode cX4_readCode 3 (some (FieldType.boolean)) ∈ AL := AL_in (tb4 (List.mem_of_getElem? (i := 177) rfl)) rfl
theorem wc_X4_readFour : Cond.code yX4_readFour cX4_readFour 6 (some (FieldType.boolean)) ∈ AL := AL_in (tb4 (List.mem_of_getElem? (i := 207) rfl)) rfl
theorem wc_X4_readHead : Cond.code yX4_readHead cX4_readHead 10 (some (FieldType.boolean)) ∈ AL := AL_in (tb4 (List.mem_of_getElem? (i := 165) rfl)) rfl
theorem wc_X4_readStream : Cond.code yX4_readStream cX4_readStream 8 (some (FieldType.boolean)) ∈ AL := AL_in (tb4 (List.mem_of_getElem? (i := 192) rfl)) rfl
theorem wc_X5_beginFrame : Cond.code yX5_beginFrame cX5_beginFrame 1 (none) ∈ AL := AL_in (tb4 (List.mem_of_getElem? (i := 133) rfl)) rfl
theorem wc_X5_endBlock : Cond.code yX5_endBlock cX5_endBlock 1 (some (FieldType.boolean)) ∈ AL := AL_in (tb5 (List.mem_of_getElem? (i := 78) rfl)) rfl
theorem wc_X5_forget : Cond.code yX5_forget cX5_forget 2 (none) ∈ AL := AL_in (tb4 (List.mem_of_getElem? (i := 86) rfl)) rfl
theorem wc_X5_init : Cond.code yX5_init cX5_init 4 (none) ∈ AL := AL_in (tb2 (List.mem_of_getElem? (i := 53) rfl)) rfl
theorem wc_X5_lacks : Cond.code yX5_lacks cX5_lacks 1 (some (FieldType.boolean)) ∈ AL := AL_in (tb4 (List.mem_of_getElem? (i := 99) rfl)) rfl
theorem wc_X5_openAll : Cond.code yX5_openAll cX5_openAll 9 (some (FieldType.boolean)) ∈ AL := AL_in (tb4 (List.mem_of_getElem? (i := 77) rfl)) rfl
theorem wc_X5_passOver : Cond.code yX5_passOver cX5_passOver 3 (some (FieldType.boolean)) ∈ AL := AL_in (tb4 (List.mem_of_getElem? (i := 111) rfl)) rfl
theorem wc_X5_readBlockHead : Cond.code yX5_readBlockHead cX5_readBlockHead 2 (some (FieldType.boolean)) ∈ AL := AL_in (tb4 (List.mem_of_getElem? (i := 156) rfl)) rfl
theorem wc_X5_readEnd : Cond.code yX5_readEnd cX5_readEnd 1 (some (FieldType.boolean)) ∈ AL := AL_in (tb5 (List.mem_of_getElem? (i := 82) rfl)) rfl
theorem wc_X5_readHead : Cond.code yX5_readHead cX5_readHead 3 (some (FieldType.boolean)) ∈ AL := AL_in (tb4 (List.mem_of_getElem? (i := 115) rfl)) rfl
theorem wc_X5_readMark : Cond.code yX5_readMark cX5_readMark 3 (some (FieldType.boolean)) ∈ AL := AL_in (tb4 (List.mem_of_getElem? (i := 90) rfl)) rfl
theorem wc_X5_readNumber : Cond.code yX5_readNumber cX5_readNumber 5 (some (FieldType.boolean)) ∈ AL := AL_in (tb4 (List.mem_of_getElem? (i := 125) rfl)) rfl
theorem wc_X5_readPacked : Cond.code yX5_readPacked cX5_readPacked 4 (some (FieldType.boolean)) ∈ AL := AL_in (tb4 (List.mem_of_getElem? (i := 161) rfl)) rfl
theorem wc_X5_readPlain : Cond.code yX5_readPlain cX5_readPlain 1 (some (FieldType.boolean)) ∈ AL := AL_in (tb5 (List.mem_of_getElem? (i := 72) rfl)) rfl
theorem wc_X5_readSize : Cond.code yX5_readSize cX5_readSize 4 (some (FieldType.boolean)) ∈ AL := AL_in (tb4 (List.mem_of_getElem? (i := 129) rfl)) rfl
theorem wc_X5_readSpan : Cond.code yX5_readSpan cX5_readSpan 4 (some (FieldType.boolean)) ∈ AL := AL_in (tb4 (List.mem_of_getElem? (i := 120) rfl)) rfl
theorem wc_X5_there : Cond.code yX5_there cX5_there 3 (some (FieldType.boolean)) ∈ AL := AL_in (tb4 (List.mem_of_getElem? (i := 95) rfl)) rfl
theorem wc_X6_allLow : Cond.code yX6_allLow cX6_allLow 3 (some (FieldType.boolean)) ∈ AL := AL_in (tb5 (List.mem_of_getElem? (i := 190) rfl)) rfl
theorem wc_X6_goBack : Cond.code yX6_goBack cX6_goBack 5 (none) ∈ AL := AL_in (tb6 (List.mem_of_getElem? (i := 46) rfl)) rfl
theorem wc_X6_init : Cond.code yX6_init cX6_init 4 (none) ∈ AL := AL_in (tb3 (List.mem_of_getElem? (i := 14) rfl)) rfl
theorem wc_X6_packRow : Cond.code yX6_packRow cX6_packRow 12 (none) ∈ AL := AL_in (tb5 (List.mem_of_getElem? (i := 123) rfl)) rfl
theorem wc_X6_symbolOf : Cond.code yX6_symbolOf cX6_symbolOf 7 (some (FieldType.int)) ∈ AL := AL_in (tb6 (List.mem_of_getElem? (i := 6) rfl)) rfl
theorem wc_X6_valueOf : Cond.code yX6_valueOf cX6_valueOf 4 (some (FieldType.int)) ∈ AL := AL_in (tb5 (List.mem_of_getElem? (i := 179) rfl)) rfl
theorem wc_X6_writeBlock : Cond.code yX6_writeBlock cX6_writeBlock 6 (none) ∈ AL := AL_in (tb6 (List.mem_of_getElem? (i := 63) rfl)) rfl
theorem wc_X6_writeBody : Cond.code yX6_writeBody cX6_writeBody 4 (some (FieldType.boolean)) ∈ AL := AL_in (tb5 (List.mem_of_getElem? (i := 151) rfl)) rfl
theorem wc_X6_writeCoded : Cond.code yX6_writeCoded cX6_writeCoded 9 (some (FieldType.boolean)) ∈ AL := AL_in (tb5 (List.mem_of_getElem? (i := 195) rfl)) rfl
theorem wc_X6_writeExtra : Cond.code yX6_writeExtra cX6_writeExtra 5 (none) ∈ AL := AL_in (tb6 (List.mem_of_getElem? (i := 58) rfl)) rfl
theorem wc_X6_writeHead : Cond.code yX6_writeHead cX6_writeHead 7 (none) ∈ AL := AL_in (tb5 (List.mem_of_getElem? (i := 127) rfl)) rfl
theorem wc_X6_writeLetters : Cond.code yX6_writeLetters cX6_writeLetters 5 (none) ∈ AL := AL_in (tb5 (List.mem_of_getElem? (i := 186) rfl)) rfl
theorem wc_X6_writeSequences : Cond.code yX6_writeSequences cX6_writeSequences 5 (none) ∈ AL := AL_in (tb5 (List.mem_of_getElem? (i := 237) rfl)) rfl
theorem wc_X6_writeStates : Cond.code yX6_writeStates cX6_writeStates 4 (none) ∈ AL := AL_in (tb6 (List.mem_of_getElem? (i := 38) rfl)) rfl
theorem wc_X6_writeStream : Cond.code yX6_writeStream cX6_writeStream 6 (none) ∈ AL := AL_in (tb5 (List.mem_of_getElem? (i := 223) rfl)) rfl
theorem wc_X6_writeTable : Cond.code yX6_writeTable cX6_writeTable 6 (some (FieldType.int)) ∈ AL := AL_in (tb6 (List.mem_of_getElem? (i := 1) rfl)) rfl
theorem wc_X6_writeWeights : Cond.code yX6_writeWeights cX6_writeWeights 5 (none) ∈ AL := AL_in (tb5 (List.mem_of_getElem? (i := 219) rfl)) rfl
theorem wc_X7_clear : Cond.code yX7_clear cX7_clear 1 (none) ∈ AL := AL_in (tb4 (List.mem_of_getElem? (i := 81) rfl)) rfl
theorem wc_X7_fail : Cond.code yX7_fail cX7_fail 3 (some (FieldType.boolean)) ∈ AL := AL_in (tb4 (List.mem_of_getElem? (i := 103) rfl)) rfl
theorem wc_X7_init : Cond.code yX7_init cX7_init 1 (none) ∈ AL := AL_in (tb1 (List.mem_of_getElem? (i := 162) rfl)) rfl
theorem wc_X7_note : Cond.code yX7_note cX7_note 6 (none) ∈ AL := AL_in (tb5 (List.mem_of_getElem? (i := 68) rfl)) rfl
theorem wc_X7_noteRemembered : Cond.code yX7_noteRemembered cX7_noteRemembered 2 (none) ∈ AL := AL_in (tb4 (List.mem_of_getElem? (i := 151) rfl)) rfl
theorem wc_X8_add : Cond.code yX8_add cX8_add 2 (none) ∈ AL := AL_in (tb3 (List.mem_of_getElem? (i := 159) rfl)) rfl
theorem wc_X8_addBits : Cond.code yX8_addBits cX8_addBits 4 (none) ∈ AL := AL_in (tb5 (List.mem_of_getElem? (i := 227) rfl)) rfl
theorem wc_X8_addFrom : Cond.code yX8_addFrom cX8_addFrom 6 (none) ∈ AL := AL_in (tb3 (List.mem_of_getElem? (i := 193) rfl)) rfl
theorem wc_X8_addNumber : Cond.code yX8_addNumber cX8_addNumber 5 (none) ∈ AL := AL_in (tb5 (List.mem_of_getElem? (i := 132) rfl)) rfl
theorem wc_X8_addSame : Cond.code yX8_addSame cX8_addSame 5 (none) ∈ AL := AL_in (tb4 (List.mem_of_getElem? (i := 188) rfl)) rfl
theorem wc_X8_endBits : Cond.code yX8_endBits cX8_endBits 1 (none) ∈ AL := AL_in (tb5 (List.mem_of_getElem? (i := 231) rfl)) rfl
theorem wc_X8_get : Cond.code yX8_get cX8_get 2 (some (FieldType.int)) ∈ AL := AL_in (tb3 (List.mem_of_getElem? (i := 177) rfl)) rfl
theorem wc_X8_init : Cond.code yX8_init cX8_init 2 (none) ∈ AL := AL_in (tb1 (List.mem_of_getElem? (i := 30) rfl)) rfl
theorem wc_X8_number : Cond.code yX8_number cX8_number 6 (some (FieldType.long)) ∈ AL := AL_in (tb3 (List.mem_of_getElem? (i := 223) rfl)) rfl
theorem wc_X8_put : Cond.code yX8_put cX8_put 3 (none) ∈ AL := AL_in (tb3 (List.mem_of_getElem? (i := 181) rfl)) rfl
theorem wc_X8_same : Cond.code yX8_same cX8_same 4 (some (FieldType.boolean)) ∈ AL := AL_in (tb5 (List.mem_of_getElem? (i := 147) rfl)) rfl
theorem wc_X8_sumFrom : Cond.code yX8_sumFrom cX8_sumFrom 5 (some (FieldType.long)) ∈ AL := AL_in (tb5 (List.mem_of_getElem? (i := 86) rfl)) rfl
theorem wc_X8_sumOfLong : Cond.code yX8_sumOfLong cX8_sumOfLong 13 (some (FieldType.long)) ∈ AL := AL_in (tb5 (List.mem_of_getElem? (i := 90) rfl)) rfl
theorem wc_X9_beginFrame : Cond.code yX9_beginFrame cX9_beginFrame 6 (none) ∈ AL := AL_in (tb4 (List.mem_of_getElem? (i := 142) rfl)) rfl
theorem wc_X9_goOn : Cond.code yX9_goOn cX9_goOn 4 (none) ∈ AL := AL_in (tb5 (List.mem_of_getElem? (i := 32) rfl)) rfl
theorem wc_X9_init : Cond.code yX9_init cX9_init 5 (none) ∈ AL := AL_in (tb2 (List.mem_of_getElem? (i := 118) rfl)) rfl
theorem wc_X9_lengthOf : Cond.code yX9_lengthOf cX9_lengthOf 3 (some (FieldType.int)) ∈ AL := AL_in (tb5 (List.mem_of_getElem? (i := 14) rfl)) rfl
theorem wc_X9_none : Cond.code yX9_none cX9_none 1 (some (FieldType.boolean)) ∈ AL := AL_in (tb4 (List.mem_of_getElem? (i := 222) rfl)) rfl
theorem wc_X9_putCopy : Cond.code yX9_putCopy cX9_putCopy 6 (none) ∈ AL := AL_in (tb5 (List.mem_of_getElem? (i := 54) rfl)) rfl
theorem wc_X9_putLetters : Cond.code yX9_putLetters cX9_putLetters 2 (none) ∈ AL := AL_in (tb5 (List.mem_of_getElem? (i := 38) rfl)) rfl
theorem wc_X9_reaches : Cond.code yX9_reaches cX9_reaches 4 (some (FieldType.boolean)) ∈ AL := AL_in (tb5 (List.mem_of_getElem? (i := 50) rfl)) rfl
theorem wc_X9_readHead : Cond.code yX9_readHead cX9_readHead 7 (some (FieldType.int)) ∈ AL := AL_in (tb4 (List.mem_of_getElem? (i := 211) rfl)) rfl
theorem wc_X9_readTable : Cond.code yX9_readTable cX9_readTable 8 (some (FieldType.int)) ∈ AL := AL_in (tb4 (List.mem_of_getElem? (i := 226) rfl)) rfl
theorem wc_X9_run : Cond.code yX9_run cX9_run 6 (some (FieldType.boolean)) ∈ AL := AL_in (tb4 (List.mem_of_getElem? (i := 237) rfl)) rfl
theorem wc_X9_runOne : Cond.code yX9_runOne cX9_runOne 9 (some (FieldType.int)) ∈ AL := AL_in (tb5 (List.mem_of_getElem? (i := 4) rfl)) rfl
theorem wc_X9_symbolOf : Cond.code yX9_symbolOf cX9_symbolOf 2 (some (FieldType.int)) ∈ AL := AL_in (tb5 (List.mem_of_getElem? (i := 8) rfl)) rfl
theorem wc_X9_tooMany : Cond.code yX9_tooMany cX9_tooMany 1 (some (FieldType.boolean)) ∈ AL := AL_in (tb5 (List.mem_of_getElem? (i := 60) rfl)) rfl
theorem wc_X9_wrong : Cond.code yX9_wrong cX9_wrong 3 (some (FieldType.int)) ∈ AL := AL_in (tb4 (List.mem_of_getElem? (i := 216) rfl)) rfl
theorem wf_RX0_13 : Cond.fieldLink RX0 13 RX8 "bytes" "[B" ∈ AL := AL_in (tb1 (List.mem_of_getElem? (i := 36) rfl)) rfl
theorem wf_RX0_16 : Cond.fieldLink RX0 16 RX0 "first" "I" ∈ AL := AL_in (tb1 (List.mem_of_getElem? (i := 111) rfl)) rfl
theorem wf_RX0_20 : Cond.fieldLink RX0 20 RX0 "left" "I" ∈ AL := AL_in (tb1 (List.mem_of_getElem? (i := 112) rfl)) rfl
theorem wf_RX0_23 : Cond.fieldLink RX0 23 RX0 "lacking" "Z" ∈ AL := AL_in (tb1 (List.mem_of_getElem? (i := 116) rfl)) rfl
theorem wf_RX0_7 : Cond.fieldLink RX0 7 RX0 "bytes" "[B" ∈ AL := AL_in (tb1 (List.mem_of_getElem? (i := 110) rfl)) rfl
theorem wf_RX10_15 : Cond.fieldLink RX10 15 RX10 "counts" "[I" ∈ AL := AL_in (tb1 (List.mem_of_getElem? (i := 77) rfl)) rfl
theorem wf_RX10_18 : Cond.fieldLink RX10 18 RX10 "nexts" "[I" ∈ AL := AL_in (tb1 (List.mem_of_getElem? (i := 78) rfl)) rfl
theorem wf_RX10_21 : Cond.fieldLink RX10 21 RX10 "data" "[B" ∈ AL := AL_in (tb1 (List.mem_of_getElem? (i := 80) rfl)) rfl
theorem wf_RX10_40 : Cond.fieldLink RX10 40 RX10 "symbols" "I" ∈ AL := AL_in (tb1 (List.mem_of_getElem? (i := 79) rfl)) rfl
theorem wf_RX10_57 : Cond.fieldLink RX10 57 RX10 "log" "I" ∈ AL := AL_in (tb1 (List.mem_of_getElem? (i := 72) rfl)) rfl
theorem wf_RX10_60 : Cond.fieldLink RX10 60 RX8 "bytes" "[B" ∈ AL := AL_in (tb1 (List.mem_of_getElem? (i := 37) rfl)) rfl
theorem wf_RX10_65 : Cond.fieldLink RX10 65 RX10 "bit" "I" ∈ AL := AL_in (tb1 (List.mem_of_getElem? (i := 81) rfl)) rfl
theorem wf_RX10_68 : Cond.fieldLink RX10 68 RX10 "endBit" "I" ∈ AL := AL_in (tb1 (List.mem_of_getElem? (i := 82) rfl)) rfl
theorem wf_RX10_71 : Cond.fieldLink RX10 71 RX10 "lacking" "Z" ∈ AL := AL_in (tb1 (List.mem_of_getElem? (i := 83) rfl)) rfl
theorem wf_RX10_9 : Cond.fieldLink RX10 9 RX10 "places" "[I" ∈ AL := AL_in (tb1 (List.mem_of_getElem? (i := 76) rfl)) rfl
theorem wf_RX11_104 : Cond.fieldLink RX11 104 RX11 "longest" "I" ∈ AL := AL_in (tb1 (List.mem_of_getElem? (i := 135) rfl)) rfl
theorem wf_RX11_113 : Cond.fieldLink RX11 113 RX8 "count" "I" ∈ AL := AL_in (tb1 (List.mem_of_getElem? (i := 46) rfl)) rfl
theorem wf_RX11_18 : Cond.fieldLink RX11 18 RX11 "table" "LTabledFrames$Table;" ∈ AL := AL_in (tb1 (List.mem_of_getElem? (i := 136) rfl)) rfl
theorem wf_RX11_25 : Cond.fieldLink RX11 25 RX11 "back" "LTabledFrames$Back;" ∈ AL := AL_in (tb1 (List.mem_of_getElem? (i := 137) rfl)) rfl
theorem wf_RX11_29 : Cond.fieldLink RX11 29 RX11 "often" "[I" ∈ AL := AL_in (tb1 (List.mem_of_getElem? (i := 138) rfl)) rfl
theorem wf_RX11_32 : Cond.fieldLink RX11 32 RX11 "parents" "[I" ∈ AL := AL_in (tb1 (List.mem_of_getElem? (i := 139) rfl)) rfl
theorem wf_RX11_35 : Cond.fieldLink RX11 35 RX11 "depths" "[I" ∈ AL := AL_in (tb1 (List.mem_of_getElem? (i := 140) rfl)) rfl
theorem wf_RX11_69 : Cond.fieldLink RX11 69 RX11 "count" "I" ∈ AL := AL_in (tb1 (List.mem_of_getElem? (i := 132) rfl)) rfl
theorem wf_RX11_73 : Cond.fieldLink RX11 73 RX10 "log" "I" ∈ AL := AL_in (tb1 (List.mem_of_getElem? (i := 71) rfl)) rfl
theorem wf_RX11_80 : Cond.fieldLink RX11 80 RX0 "lacking" "Z" ∈ AL := AL_in (tb1 (List.mem_of_getElem? (i := 117) rfl)) rfl
theorem wf_RX11_9 : Cond.fieldLink RX11 9 RX11 "weights" "[I" ∈ AL := AL_in (tb1 (List.mem_of_getElem? (i := 128) rfl)) rfl
theorem wf_RX11_90 : Cond.fieldLink RX11 90 RX0 "left" "I" ∈ AL := AL_in (tb1 (List.mem_of_getElem? (i := 113) rfl)) rfl
theorem wf_RX12_107 : Cond.fieldLink RX12 107 RX12 "kept" "LTabledFrames$Dictionary;" ∈ AL := AL_in (tb3 (List.mem_of_getElem? (i := 126) rfl)) rfl
theorem wf_RX12_115 : Cond.fieldLink RX12 115 RX2 "number" "I" ∈ AL := AL_in (tb1 (List.mem_of_getElem? (i := 222) rfl)) rfl
theorem wf_RX12_118 : Cond.fieldLink RX12 118 RX12 "opened" "LTabledFrames$Dictionary;" ∈ AL := AL_in (tb3 (List.mem_of_getElem? (i := 127) rfl)) rfl
theorem wf_RX12_125 : Cond.fieldLink RX12 125 RX7 "place" "I" ∈ AL := AL_in (tb1 (List.mem_of_getElem? (i := 167) rfl)) rfl
theorem wf_RX12_126 : Cond.fieldLink RX12 126 RX7 "fault" "I" ∈ AL := AL_in (tb1 (List.mem_of_getElem? (i := 165) rfl)) rfl
theorem wf_RX12_14 : Cond.fieldLink RX12 14 RX12 "row" "LTabledFrames$Row;" ∈ AL := AL_in (tb3 (List.mem_of_getElem? (i := 118) rfl)) rfl
theorem wf_RX12_140 : Cond.fieldLink RX12 140 RX7 "told" "[I" ∈ AL := AL_in (tb1 (List.mem_of_getElem? (i := 171) rfl)) rfl
theorem wf_RX12_144 : Cond.fieldLink RX12 144 RX7 "noted" "[I" ∈ AL := AL_in (tb1 (List.mem_of_getElem? (i := 173) rfl)) rfl
theorem wf_RX12_147 : Cond.fieldLink RX12 147 RX5 "sequences" "LTabledFrames$Sequences;" ∈ AL := AL_in (tb2 (List.mem_of_getElem? (i := 193) rfl)) rfl
theorem wf_RX12_151 : Cond.fieldLink RX12 151 RX9 "known" "[Z" ∈ AL := AL_in (tb2 (List.mem_of_getElem? (i := 130) rfl)) rfl
theorem wf_RX12_157 : Cond.fieldLink RX12 157 RX9 "latest" "[LTabledFrames$Table;" ∈ AL := AL_in (tb2 (List.mem_of_getElem? (i := 127) rfl)) rfl
theorem wf_RX12_161 : Cond.fieldLink RX12 161 RX10 "log" "I" ∈ AL := AL_in (tb1 (List.mem_of_getElem? (i := 75) rfl)) rfl
theorem wf_RX12_173 : Cond.fieldLink RX12 173 RX5 "letters" "LTabledFrames$Letters;" ∈ AL := AL_in (tb2 (List.mem_of_getElem? (i := 191) rfl)) rfl
theorem wf_RX12_177 : Cond.fieldLink RX12 177 RX4 "known" "Z" ∈ AL := AL_in (tb2 (List.mem_of_getElem? (i := 75) rfl)) rfl
theorem wf_RX12_18 : Cond.fieldLink RX12 18 RX12 "came" "LTabledFrames$Row;" ∈ AL := AL_in (tb3 (List.mem_of_getElem? (i := 119) rfl)) rfl
theorem wf_RX12_182 : Cond.fieldLink RX12 182 RX4 "latest" "LTabledFrames$Code;" ∈ AL := AL_in (tb2 (List.mem_of_getElem? (i := 72) rfl)) rfl
theorem wf_RX12_185 : Cond.fieldLink RX12 185 RX1 "lengths" "[I" ∈ AL := AL_in (tb1 (List.mem_of_getElem? (i := 203) rfl)) rfl
theorem wf_RX12_198 : Cond.fieldLink RX12 198 RX12 "LETTERS_BASE" "[I" ∈ AL := AL_in (tb5 (List.mem_of_getElem? (i := 18) rfl)) rfl
theorem wf_RX12_201 : Cond.fieldLink RX12 201 RX12 "COPIES_BASE" "[I" ∈ AL := AL_in (tb5 (List.mem_of_getElem? (i := 20) rfl)) rfl
theorem wf_RX12_204 : Cond.fieldLink RX12 204 RX12 "LETTERS_BITS" "[I" ∈ AL := AL_in (tb5 (List.mem_of_getElem? (i := 25) rfl)) rfl
theorem wf_RX12_207 : Cond.fieldLink RX12 207 RX12 "COPIES_BITS" "[I" ∈ AL := AL_in (tb5 (List.mem_of_getElem? (i := 27) rfl)) rfl
theorem wf_RX12_21 : Cond.fieldLink RX12 21 RX12 "spare" "LTabledFrames$Row;" ∈ AL := AL_in (tb3 (List.mem_of_getElem? (i := 120) rfl)) rfl
theorem wf_RX12_216 : Cond.fieldLink RX12 216 RX2 "remembered" "[I" ∈ AL := AL_in (tb1 (List.mem_of_getElem? (i := 227) rfl)) rfl
theorem wf_RX12_27 : Cond.fieldLink RX12 27 RX12 "weights" "LTabledFrames$Weights;" ∈ AL := AL_in (tb3 (List.mem_of_getElem? (i := 121) rfl)) rfl
theorem wf_RX12_34 : Cond.fieldLink RX12 34 RX12 "report" "LTabledFrames$Report;" ∈ AL := AL_in (tb3 (List.mem_of_getElem? (i := 122) rfl)) rfl
theorem wf_RX12_40 : Cond.fieldLink RX12 40 RX12 "dictionaries" "[LTabledFrames$Dictionary;" ∈ AL := AL_in (tb3 (List.mem_of_getElem? (i := 123) rfl)) rfl
theorem wf_RX12_44 : Cond.fieldLink RX12 44 RX12 "place" "I" ∈ AL := AL_in (tb3 (List.mem_of_getElem? (i := 128) rfl)) rfl
theorem wf_RX12_60 : Cond.fieldLink RX12 60 RX12 "opener" "LTabledFrames$Opener;" ∈ AL := AL_in (tb3 (List.mem_of_getElem? (i := 124) rfl)) rfl
theorem wf_RX12_69 : Cond.fieldLink RX12 69 RX12 "packer" "LTabledFrames$Packer;" ∈ AL := AL_in (tb3 (List.mem_of_getElem? (i := 125) rfl)) rfl
theorem wf_RX12_73 : Cond.fieldLink RX12 73 RX8 "count" "I" ∈ AL := AL_in (tb1 (List.mem_of_getElem? (i := 41) rfl)) rfl
theorem wf_RX13_101 : Cond.fieldLink RX13 101 RX13 "seqOffset" "[I" ∈ AL := AL_in (tb6 (List.mem_of_getElem? (i := 152) rfl)) rfl
theorem wf_RX13_104 : Cond.fieldLink RX13 104 RX13 "file" "[B" ∈ AL := AL_in (tb6 (List.mem_of_getElem? (i := 155) rfl)) rfl
theorem wf_RX13_108 : Cond.fieldLink RX13 108 RX13 "digits" "[B" ∈ AL := AL_in (tb6 (List.mem_of_getElem? (i := 157) rfl)) rfl
theorem wf_RX13_111 : Cond.fieldLink RX13 111 RX13 "both" "[B" ∈ AL := AL_in (tb6 (List.mem_of_getElem? (i := 159) rfl)) rfl
theorem wf_RX13_114 : Cond.fieldLink RX13 114 RX13 "packRep" "[J" ∈ AL := AL_in (tb6 (List.mem_of_getElem? (i := 161) rfl)) rfl
theorem wf_RX13_117 : Cond.fieldLink RX13 117 RX13 "keptRep" "[J" ∈ AL := AL_in (tb6 (List.mem_of_getElem? (i := 162) rfl)) rfl
theorem wf_RX13_120 : Cond.fieldLink RX13 120 RX13 "actLetters" "[I" ∈ AL := AL_in (tb6 (List.mem_of_getElem? (i := 164) rfl)) rfl
theorem wf_RX13_123 : Cond.fieldLink RX13 123 RX13 "actCopy" "[I" ∈ AL := AL_in (tb6 (List.mem_of_getElem? (i := 165) rfl)) rfl
theorem wf_RX13_126 : Cond.fieldLink RX13 126 RX13 "actValue" "[J" ∈ AL := AL_in (tb6 (List.mem_of_getElem? (i := 166) rfl)) rfl
theorem wf_RX13_129 : Cond.fieldLink RX13 129 RX13 "actSymbol" "[I" ∈ AL := AL_in (tb6 (List.mem_of_getElem? (i := 167) rfl)) rfl
theorem wf_RX13_13 : Cond.fieldLink RX13 13 RX13 "came" "[B" ∈ AL := AL_in (tb6 (List.mem_of_getElem? (i := 104) rfl)) rfl
theorem wf_RX13_132 : Cond.fieldLink RX13 132 RX13 "actState" "[I" ∈ AL := AL_in (tb6 (List.mem_of_getElem? (i := 168) rfl)) rfl
theorem wf_RX13_135 : Cond.fieldLink RX13 135 RX13 "lits" "[B" ∈ AL := AL_in (tb6 (List.mem_of_getElem? (i := 169) rfl)) rfl
theorem wf_RX13_138 : Cond.fieldLink RX13 138 RX13 "often" "[I" ∈ AL := AL_in (tb6 (List.mem_of_getElem? (i := 171) rfl)) rfl
theorem wf_RX13_141 : Cond.fieldLink RX13 141 RX13 "weight" "[J" ∈ AL := AL_in (tb6 (List.mem_of_getElem? (i := 172) rfl)) rfl
theorem wf_RX13_144 : Cond.fieldLink RX13 144 RX13 "above" "[I" ∈ AL := AL_in (tb6 (List.mem_of_getElem? (i := 173) rfl)) rfl
theorem wf_RX13_147 : Cond.fieldLink RX13 147 RX13 "joined" "[Z" ∈ AL := AL_in (tb6 (List.mem_of_getElem? (i := 174) rfl)) rfl
theorem wf_RX13_150 : Cond.fieldLink RX13 150 RX13 "size" "I" ∈ AL := AL_in (tb6 (List.mem_of_getElem? (i := 103) rfl)) rfl
theorem wf_RX13_155 : Cond.fieldLink RX13 155 RX13 "cameSize" "I" ∈ AL := AL_in (tb6 (List.mem_of_getElem? (i := 105) rfl)) rfl
theorem wf_RX13_158 : Cond.fieldLink RX13 158 RX13 "fault" "I" ∈ AL := AL_in (tb6 (List.mem_of_getElem? (i := 106) rfl)) rfl
theorem wf_RX13_16 : Cond.fieldLink RX13 16 RX13 "faultPlace" "I" ∈ AL := AL_in (tb6 (List.mem_of_getElem? (i := 107) rfl)) rfl
theorem wf_RX13_190 : Cond.fieldLink RX13 190 RX13 "fEnd" "I" ∈ AL := AL_in (tb6 (List.mem_of_getElem? (i := 110) rfl)) rfl
theorem wf_RX13_193 : Cond.fieldLink RX13 193 RX13 "fAt" "I" ∈ AL := AL_in (tb6 (List.mem_of_getElem? (i := 109) rfl)) rfl
theorem wf_RX13_196 : Cond.fieldLink RX13 196 RX13 "lacks" "Z" ∈ AL := AL_in (tb6 (List.mem_of_getElem? (i := 111) rfl)) rfl
theorem wf_RX13_20 : Cond.fieldLink RX13 20 RX13 "src" "[B" ∈ AL := AL_in (tb6 (List.mem_of_getElem? (i := 108) rfl)) rfl
theorem wf_RX13_200 : Cond.fieldLink RX13 200 RX13 "rBegin" "I" ∈ AL := AL_in (tb6 (List.mem_of_getElem? (i := 112) rfl)) rfl
theorem wf_RX13_203 : Cond.fieldLink RX13 203 RX13 "rAt" "I" ∈ AL := AL_in (tb6 (List.mem_of_getElem? (i := 113) rfl)) rfl
theorem wf_RX13_210 : Cond.fieldLink RX13 210 RX13 "countLog" "I" ∈ AL := AL_in (tb6 (List.mem_of_getElem? (i := 115) rfl)) rfl
theorem wf_RX13_23 : Cond.fieldLink RX13 23 RX13 "counts" "[I" ∈ AL := AL_in (tb6 (List.mem_of_getElem? (i := 114) rfl)) rfl
theorem wf_RX13_245 : Cond.fieldLink RX13 245 RX13 "hasDict" "Z" ∈ AL := AL_in (tb6 (List.mem_of_getElem? (i := 129) rfl)) rfl
theorem wf_RX13_248 : Cond.fieldLink RX13 248 RX13 "isTabled" "Z" ∈ AL := AL_in (tb6 (List.mem_of_getElem? (i := 130) rfl)) rfl
theorem wf_RX13_251 : Cond.fieldLink RX13 251 RX13 "dictNumber" "I" ∈ AL := AL_in (tb6 (List.mem_of_getElem? (i := 131) rfl)) rfl
theorem wf_RX13_27 : Cond.fieldLink RX13 27 RX13 "symbol" "[S" ∈ AL := AL_in (tb6 (List.mem_of_getElem? (i := 116) rfl)) rfl
theorem wf_RX13_273 : Cond.fieldLink RX13 273 RX13 "dictSize" "I" ∈ AL := AL_in (tb6 (List.mem_of_getElem? (i := 128) rfl)) rfl
theorem wf_RX13_283 : Cond.fieldLink RX13 283 RX13 "at" "I" ∈ AL := AL_in (tb6 (List.mem_of_getElem? (i := 153) rfl)) rfl
theorem wf_RX13_286 : Cond.fieldLink RX13 286 RX13 "madeSize" "I" ∈ AL := AL_in (tb6 (List.mem_of_getElem? (i := 135) rfl)) rfl
theorem wf_RX13_289 : Cond.fieldLink RX13 289 RX13 "sequences" "I" ∈ AL := AL_in (tb6 (List.mem_of_getElem? (i := 148) rfl)) rfl
theorem wf_RX13_31 : Cond.fieldLink RX13 31 RX13 "bitsOf" "[B" ∈ AL := AL_in (tb6 (List.mem_of_getElem? (i := 117) rfl)) rfl
theorem wf_RX13_311 : Cond.fieldLink RX13 311 RX13 "span" "J" ∈ AL := AL_in (tb6 (List.mem_of_getElem? (i := 143) rfl)) rfl
theorem wf_RX13_324 : Cond.fieldLink RX13 324 RX13 "limit" "I" ∈ AL := AL_in (tb6 (List.mem_of_getElem? (i := 144) rfl)) rfl
theorem wf_RX13_334 : Cond.fieldLink RX13 334 RX13 "frameBegin" "I" ∈ AL := AL_in (tb6 (List.mem_of_getElem? (i := 141) rfl)) rfl
theorem wf_RX13_339 : Cond.fieldLink RX13 339 RX13 "counts1" "Z" ∈ AL := AL_in (tb6 (List.mem_of_getElem? (i := 142) rfl)) rfl
theorem wf_RX13_34 : Cond.fieldLink RX13 34 RX13 "base" "[I" ∈ AL := AL_in (tb6 (List.mem_of_getElem? (i := 118) rfl)) rfl
theorem wf_RX13_344 : Cond.fieldLink RX13 344 RX13 "blockSize" "I" ∈ AL := AL_in (tb6 (List.mem_of_getElem? (i := 137) rfl)) rfl
theorem wf_RX13_353 : Cond.fieldLink RX13 353 RX13 "letterCount" "I" ∈ AL := AL_in (tb6 (List.mem_of_getElem? (i := 139) rfl)) rfl
theorem wf_RX13_37 : Cond.fieldLink RX13 37 RX13 "logOf" "[I" ∈ AL := AL_in (tb6 (List.mem_of_getElem? (i := 119) rfl)) rfl
theorem wf_RX13_370 : Cond.fieldLink RX13 370 RX13 "tableAt" "I" ∈ AL := AL_in (tb6 (List.mem_of_getElem? (i := 154) rfl)) rfl
theorem wf_RX13_376 : Cond.fieldLink RX13 376 RX13 "lettersOut" "I" ∈ AL := AL_in (tb6 (List.mem_of_getElem? (i := 140) rfl)) rfl
theorem wf_RX13_40 : Cond.fieldLink RX13 40 RX13 "has" "[Z" ∈ AL := AL_in (tb6 (List.mem_of_getElem? (i := 120) rfl)) rfl
theorem wf_RX13_412 : Cond.fieldLink RX13 412 RX13 "fileSize" "I" ∈ AL := AL_in (tb6 (List.mem_of_getElem? (i := 156) rfl)) rfl
theorem wf_RX13_415 : Cond.fieldLink RX13 415 RX13 "digitCount" "I" ∈ AL := AL_in (tb6 (List.mem_of_getElem? (i := 158) rfl)) rfl
theorem wf_RX13_424 : Cond.fieldLink RX13 424 RX13 "before" "I" ∈ AL := AL_in (tb6 (List.mem_of_getElem? (i := 160) rfl)) rfl
theorem wf_RX13_44 : Cond.fieldLink RX13 44 RX13 "seen" "[I" ∈ AL := AL_in (tb6 (List.mem_of_getElem? (i := 121) rfl)) rfl
theorem wf_RX13_443 : Cond.fieldLink RX13 443 RX13 "acts" "I" ∈ AL := AL_in (tb6 (List.mem_of_getElem? (i := 163) rfl)) rfl
theorem wf_RX13_446 : Cond.fieldLink RX13 446 RX13 "litCount" "I" ∈ AL := AL_in (tb6 (List.mem_of_getElem? (i := 170) rfl)) rfl
theorem wf_RX13_47 : Cond.fieldLink RX13 47 RX13 "codeBits" "[I" ∈ AL := AL_in (tb6 (List.mem_of_getElem? (i := 122) rfl)) rfl
theorem wf_RX13_50 : Cond.fieldLink RX13 50 RX13 "hasCode" "[Z" ∈ AL := AL_in (tb6 (List.mem_of_getElem? (i := 123) rfl)) rfl
theorem wf_RX13_503 : Cond.fieldLink RX13 503 RX13 "held" "I" ∈ AL := AL_in (tb6 (List.mem_of_getElem? (i := 175) rfl)) rfl
theorem wf_RX13_506 : Cond.fieldLink RX13 506 RX13 "heldBits" "I" ∈ AL := AL_in (tb6 (List.mem_of_getElem? (i := 176) rfl)) rfl
theorem wf_RX13_53 : Cond.fieldLink RX13 53 RX13 "codeMost" "[I" ∈ AL := AL_in (tb6 (List.mem_of_getElem? (i := 124) rfl)) rfl
theorem wf_RX13_56 : Cond.fieldLink RX13 56 RX13 "codeSymbol" "[S" ∈ AL := AL_in (tb6 (List.mem_of_getElem? (i := 125) rfl)) rfl
theorem wf_RX13_59 : Cond.fieldLink RX13 59 RX13 "weights" "[I" ∈ AL := AL_in (tb6 (List.mem_of_getElem? (i := 126) rfl)) rfl
theorem wf_RX13_62 : Cond.fieldLink RX13 62 RX13 "dict" "[B" ∈ AL := AL_in (tb6 (List.mem_of_getElem? (i := 127) rfl)) rfl
theorem wf_RX13_65 : Cond.fieldLink RX13 65 RX13 "dictReps" "[I" ∈ AL := AL_in (tb6 (List.mem_of_getElem? (i := 132) rfl)) rfl
theorem wf_RX13_68 : Cond.fieldLink RX13 68 RX13 "trial" "[B" ∈ AL := AL_in (tb6 (List.mem_of_getElem? (i := 133) rfl)) rfl
theorem wf_RX13_7 : Cond.fieldLink RX13 7 RX13 "row" "[B" ∈ AL := AL_in (tb6 (List.mem_of_getElem? (i := 102) rfl)) rfl
theorem wf_RX13_71 : Cond.fieldLink RX13 71 RX13 "made" "[B" ∈ AL := AL_in (tb6 (List.mem_of_getElem? (i := 134) rfl)) rfl
theorem wf_RX13_75 : Cond.fieldLink RX13 75 RX13 "block" "[B" ∈ AL := AL_in (tb6 (List.mem_of_getElem? (i := 136) rfl)) rfl
theorem wf_RX13_79 : Cond.fieldLink RX13 79 RX13 "letters" "[B" ∈ AL := AL_in (tb6 (List.mem_of_getElem? (i := 138) rfl)) rfl
theorem wf_RX13_82 : Cond.fieldLink RX13 82 RX13 "reps" "[I" ∈ AL := AL_in (tb6 (List.mem_of_getElem? (i := 145) rfl)) rfl
theorem wf_RX13_85 : Cond.fieldLink RX13 85 RX13 "rep" "[J" ∈ AL := AL_in (tb6 (List.mem_of_getElem? (i := 146) rfl)) rfl
theorem wf_RX13_89 : Cond.fieldLink RX13 89 RX13 "tells" "[I" ∈ AL := AL_in (tb6 (List.mem_of_getElem? (i := 147) rfl)) rfl
theorem wf_RX13_92 : Cond.fieldLink RX13 92 RX13 "seqLetters" "[I" ∈ AL := AL_in (tb6 (List.mem_of_getElem? (i := 149) rfl)) rfl
theorem wf_RX13_95 : Cond.fieldLink RX13 95 RX13 "seqCopy" "[I" ∈ AL := AL_in (tb6 (List.mem_of_getElem? (i := 150) rfl)) rfl
theorem wf_RX13_98 : Cond.fieldLink RX13 98 RX13 "seqValue" "[I" ∈ AL := AL_in (tb6 (List.mem_of_getElem? (i := 151) rfl)) rfl
theorem wf_RX1_15 : Cond.fieldLink RX1 15 RX1 "words" "[I" ∈ AL := AL_in (tb1 (List.mem_of_getElem? (i := 204) rfl)) rfl
theorem wf_RX1_18 : Cond.fieldLink RX1 18 RX1 "found" "[I" ∈ AL := AL_in (tb1 (List.mem_of_getElem? (i := 206) rfl)) rfl
theorem wf_RX1_21 : Cond.fieldLink RX1 21 RX11 "longest" "I" ∈ AL := AL_in (tb1 (List.mem_of_getElem? (i := 134) rfl)) rfl
theorem wf_RX1_27 : Cond.fieldLink RX1 27 RX1 "longest" "I" ∈ AL := AL_in (tb1 (List.mem_of_getElem? (i := 198) rfl)) rfl
theorem wf_RX1_34 : Cond.fieldLink RX1 34 RX11 "count" "I" ∈ AL := AL_in (tb1 (List.mem_of_getElem? (i := 131) rfl)) rfl
theorem wf_RX1_37 : Cond.fieldLink RX1 37 RX11 "weights" "[I" ∈ AL := AL_in (tb1 (List.mem_of_getElem? (i := 129) rfl)) rfl
theorem wf_RX1_9 : Cond.fieldLink RX1 9 RX1 "lengths" "[I" ∈ AL := AL_in (tb1 (List.mem_of_getElem? (i := 200) rfl)) rfl
theorem wf_RX2_17 : Cond.fieldLink RX2 17 RX2 "tables" "[LTabledFrames$Table;" ∈ AL := AL_in (tb1 (List.mem_of_getElem? (i := 228) rfl)) rfl
theorem wf_RX2_24 : Cond.fieldLink RX2 24 RX2 "code" "LTabledFrames$Code;" ∈ AL := AL_in (tb1 (List.mem_of_getElem? (i := 230) rfl)) rfl
theorem wf_RX2_33 : Cond.fieldLink RX2 33 RX2 "content" "LTabledFrames$Row;" ∈ AL := AL_in (tb1 (List.mem_of_getElem? (i := 232) rfl)) rfl
theorem wf_RX2_42 : Cond.fieldLink RX2 42 RX2 "number" "I" ∈ AL := AL_in (tb1 (List.mem_of_getElem? (i := 219) rfl)) rfl
theorem wf_RX2_46 : Cond.fieldLink RX2 46 RX2 "contentFrom" "I" ∈ AL := AL_in (tb1 (List.mem_of_getElem? (i := 235) rfl)) rfl
theorem wf_RX2_49 : Cond.fieldLink RX2 49 RX8 "count" "I" ∈ AL := AL_in (tb1 (List.mem_of_getElem? (i := 40) rfl)) rfl
theorem wf_RX2_57 : Cond.fieldLink RX2 57 RX2 "tabled" "Z" ∈ AL := AL_in (tb1 (List.mem_of_getElem? (i := 224) rfl)) rfl
theorem wf_RX2_9 : Cond.fieldLink RX2 9 RX2 "remembered" "[I" ∈ AL := AL_in (tb1 (List.mem_of_getElem? (i := 226) rfl)) rfl
theorem wf_RX3_14 : Cond.fieldLink RX3 14 RX3 "letters" "LTabledFrames$Row;" ∈ AL := AL_in (tb3 (List.mem_of_getElem? (i := 24) rfl)) rfl
theorem wf_RX3_20 : Cond.fieldLink RX3 20 RX3 "counts" "[I" ∈ AL := AL_in (tb3 (List.mem_of_getElem? (i := 28) rfl)) rfl
theorem wf_RX3_24 : Cond.fieldLink RX3 24 RX3 "copies" "[I" ∈ AL := AL_in (tb3 (List.mem_of_getElem? (i := 30) rfl)) rfl
theorem wf_RX3_27 : Cond.fieldLink RX3 27 RX3 "offsets" "[I" ∈ AL := AL_in (tb3 (List.mem_of_getElem? (i := 32) rfl)) rfl
theorem wf_RX3_30 : Cond.fieldLink RX3 30 RX3 "all" "LTabledFrames$Row;" ∈ AL := AL_in (tb3 (List.mem_of_getElem? (i := 34) rfl)) rfl
theorem wf_RX3_33 : Cond.fieldLink RX3 33 RX3 "heads" "[I" ∈ AL := AL_in (tb3 (List.mem_of_getElem? (i := 35) rfl)) rfl
theorem wf_RX3_36 : Cond.fieldLink RX3 36 RX3 "links" "[I" ∈ AL := AL_in (tb3 (List.mem_of_getElem? (i := 36) rfl)) rfl
theorem wf_RX3_39 : Cond.fieldLink RX3 39 RX8 "count" "I" ∈ AL := AL_in (tb1 (List.mem_of_getElem? (i := 38) rfl)) rfl
theorem wf_RX3_47 : Cond.fieldLink RX3 47 RX3 "contentCount" "I" ∈ AL := AL_in (tb3 (List.mem_of_getElem? (i := 37) rfl)) rfl
theorem wf_RX3_56 : Cond.fieldLink RX3 56 RX3 "linked" "I" ∈ AL := AL_in (tb3 (List.mem_of_getElem? (i := 38) rfl)) rfl
theorem wf_RX3_59 : Cond.fieldLink RX3 59 RX3 "found" "I" ∈ AL := AL_in (tb3 (List.mem_of_getElem? (i := 26) rfl)) rfl
theorem wf_RX3_66 : Cond.fieldLink RX3 66 RX3 "bestLength" "I" ∈ AL := AL_in (tb3 (List.mem_of_getElem? (i := 39) rfl)) rfl
theorem wf_RX3_76 : Cond.fieldLink RX3 76 RX3 "bestPlace" "I" ∈ AL := AL_in (tb3 (List.mem_of_getElem? (i := 40) rfl)) rfl
theorem wf_RX4_110 : Cond.fieldLink RX4 110 RX8 "count" "I" ∈ AL := AL_in (tb1 (List.mem_of_getElem? (i := 45) rfl)) rfl
theorem wf_RX4_127 : Cond.fieldLink RX4 127 RX7 "told" "[I" ∈ AL := AL_in (tb1 (List.mem_of_getElem? (i := 169) rfl)) rfl
theorem wf_RX4_135 : Cond.fieldLink RX4 135 RX1 "longest" "I" ∈ AL := AL_in (tb1 (List.mem_of_getElem? (i := 199) rfl)) rfl
theorem wf_RX4_14 : Cond.fieldLink RX4 14 RX4 "row" "LTabledFrames$Row;" ∈ AL := AL_in (tb2 (List.mem_of_getElem? (i := 69) rfl)) rfl
theorem wf_RX4_144 : Cond.fieldLink RX4 144 RX1 "lengths" "[I" ∈ AL := AL_in (tb1 (List.mem_of_getElem? (i := 201) rfl)) rfl
theorem wf_RX4_147 : Cond.fieldLink RX4 147 RX0 "left" "I" ∈ AL := AL_in (tb1 (List.mem_of_getElem? (i := 115) rfl)) rfl
theorem wf_RX4_23 : Cond.fieldLink RX4 23 RX4 "own" "LTabledFrames$Code;" ∈ AL := AL_in (tb2 (List.mem_of_getElem? (i := 78) rfl)) rfl
theorem wf_RX4_30 : Cond.fieldLink RX4 30 RX4 "back" "LTabledFrames$Back;" ∈ AL := AL_in (tb2 (List.mem_of_getElem? (i := 81) rfl)) rfl
theorem wf_RX4_34 : Cond.fieldLink RX4 34 RX4 "report" "LTabledFrames$Report;" ∈ AL := AL_in (tb2 (List.mem_of_getElem? (i := 79) rfl)) rfl
theorem wf_RX4_38 : Cond.fieldLink RX4 38 RX4 "weights" "LTabledFrames$Weights;" ∈ AL := AL_in (tb2 (List.mem_of_getElem? (i := 80) rfl)) rfl
theorem wf_RX4_42 : Cond.fieldLink RX4 42 RX4 "latest" "LTabledFrames$Code;" ∈ AL := AL_in (tb2 (List.mem_of_getElem? (i := 71) rfl)) rfl
theorem wf_RX4_45 : Cond.fieldLink RX4 45 RX2 "tabled" "Z" ∈ AL := AL_in (tb1 (List.mem_of_getElem? (i := 223) rfl)) rfl
theorem wf_RX4_51 : Cond.fieldLink RX4 51 RX4 "known" "Z" ∈ AL := AL_in (tb2 (List.mem_of_getElem? (i := 73) rfl)) rfl
theorem wf_RX4_54 : Cond.fieldLink RX4 54 RX2 "code" "LTabledFrames$Code;" ∈ AL := AL_in (tb1 (List.mem_of_getElem? (i := 231) rfl)) rfl
theorem wf_RX4_57 : Cond.fieldLink RX4 57 RX4 "start" "I" ∈ AL := AL_in (tb2 (List.mem_of_getElem? (i := 82) rfl)) rfl
theorem wf_RX4_65 : Cond.fieldLink RX4 65 RX4 "kind" "I" ∈ AL := AL_in (tb2 (List.mem_of_getElem? (i := 84) rfl)) rfl
theorem wf_RX4_68 : Cond.fieldLink RX4 68 RX4 "form" "I" ∈ AL := AL_in (tb2 (List.mem_of_getElem? (i := 85) rfl)) rfl
theorem wf_RX4_91 : Cond.fieldLink RX4 91 RX4 "at" "I" ∈ AL := AL_in (tb2 (List.mem_of_getElem? (i := 83) rfl)) rfl
theorem wf_RX4_94 : Cond.fieldLink RX4 94 RX4 "count" "I" ∈ AL := AL_in (tb2 (List.mem_of_getElem? (i := 86) rfl)) rfl
theorem wf_RX4_97 : Cond.fieldLink RX4 97 RX4 "end" "I" ∈ AL := AL_in (tb2 (List.mem_of_getElem? (i := 76) rfl)) rfl
theorem wf_RX5_100 : Cond.fieldLink RX5 100 RX9 "known" "[Z" ∈ AL := AL_in (tb2 (List.mem_of_getElem? (i := 129) rfl)) rfl
theorem wf_RX5_132 : Cond.fieldLink RX5 132 RX7 "told" "[I" ∈ AL := AL_in (tb1 (List.mem_of_getElem? (i := 170) rfl)) rfl
theorem wf_RX5_14 : Cond.fieldLink RX5 14 RX5 "row" "LTabledFrames$Row;" ∈ AL := AL_in (tb2 (List.mem_of_getElem? (i := 195) rfl)) rfl
theorem wf_RX5_140 : Cond.fieldLink RX5 140 RX5 "summed" "Z" ∈ AL := AL_in (tb2 (List.mem_of_getElem? (i := 205) rfl)) rfl
theorem wf_RX5_159 : Cond.fieldLink RX5 159 RX5 "span" "J" ∈ AL := AL_in (tb2 (List.mem_of_getElem? (i := 201) rfl)) rfl
theorem wf_RX5_162 : Cond.fieldLink RX5 162 RX2 "number" "I" ∈ AL := AL_in (tb1 (List.mem_of_getElem? (i := 221) rfl)) rfl
theorem wf_RX5_166 : Cond.fieldLink RX5 166 RX5 "counting" "LTabledFrames$Dictionary;" ∈ AL := AL_in (tb2 (List.mem_of_getElem? (i := 198) rfl)) rfl
theorem wf_RX5_169 : Cond.fieldLink RX5 169 RX5 "sizePlace" "I" ∈ AL := AL_in (tb2 (List.mem_of_getElem? (i := 204) rfl)) rfl
theorem wf_RX5_172 : Cond.fieldLink RX5 172 RX5 "sized" "Z" ∈ AL := AL_in (tb2 (List.mem_of_getElem? (i := 203) rfl)) rfl
theorem wf_RX5_175 : Cond.fieldLink RX5 175 RX5 "size" "J" ∈ AL := AL_in (tb2 (List.mem_of_getElem? (i := 202) rfl)) rfl
theorem wf_RX5_186 : Cond.fieldLink RX5 186 RX5 "blockFrom" "I" ∈ AL := AL_in (tb2 (List.mem_of_getElem? (i := 206) rfl)) rfl
theorem wf_RX5_191 : Cond.fieldLink RX5 191 RX5 "blockSize" "I" ∈ AL := AL_in (tb2 (List.mem_of_getElem? (i := 208) rfl)) rfl
theorem wf_RX5_194 : Cond.fieldLink RX5 194 RX9 "limit" "I" ∈ AL := AL_in (tb2 (List.mem_of_getElem? (i := 144) rfl)) rfl
theorem wf_RX5_20 : Cond.fieldLink RX5 20 RX5 "made" "LTabledFrames$Row;" ∈ AL := AL_in (tb2 (List.mem_of_getElem? (i := 196) rfl)) rfl
theorem wf_RX5_215 : Cond.fieldLink RX5 215 RX4 "end" "I" ∈ AL := AL_in (tb2 (List.mem_of_getElem? (i := 77) rfl)) rfl
theorem wf_RX5_23 : Cond.fieldLink RX5 23 RX5 "report" "LTabledFrames$Report;" ∈ AL := AL_in (tb2 (List.mem_of_getElem? (i := 194) rfl)) rfl
theorem wf_RX5_232 : Cond.fieldLink RX5 232 RX9 "frameFrom" "I" ∈ AL := AL_in (tb2 (List.mem_of_getElem? (i := 142) rfl)) rfl
theorem wf_RX5_32 : Cond.fieldLink RX5 32 RX5 "letters" "LTabledFrames$Letters;" ∈ AL := AL_in (tb2 (List.mem_of_getElem? (i := 190) rfl)) rfl
theorem wf_RX5_41 : Cond.fieldLink RX5 41 RX5 "sequences" "LTabledFrames$Sequences;" ∈ AL := AL_in (tb2 (List.mem_of_getElem? (i := 192) rfl)) rfl
theorem wf_RX5_45 : Cond.fieldLink RX5 45 RX5 "kept" "LTabledFrames$Dictionary;" ∈ AL := AL_in (tb2 (List.mem_of_getElem? (i := 197) rfl)) rfl
theorem wf_RX5_49 : Cond.fieldLink RX5 49 RX5 "most" "J" ∈ AL := AL_in (tb2 (List.mem_of_getElem? (i := 199) rfl)) rfl
theorem wf_RX5_53 : Cond.fieldLink RX5 53 RX5 "at" "I" ∈ AL := AL_in (tb2 (List.mem_of_getElem? (i := 200) rfl)) rfl
theorem wf_RX5_57 : Cond.fieldLink RX5 57 RX8 "count" "I" ∈ AL := AL_in (tb1 (List.mem_of_getElem? (i := 43) rfl)) rfl
theorem wf_RX5_72 : Cond.fieldLink RX5 72 RX5 "lastBlock" "Z" ∈ AL := AL_in (tb2 (List.mem_of_getElem? (i := 209) rfl)) rfl
theorem wf_RX5_79 : Cond.fieldLink RX5 79 RX5 "blockKind" "I" ∈ AL := AL_in (tb2 (List.mem_of_getElem? (i := 207) rfl)) rfl
theorem wf_RX5_91 : Cond.fieldLink RX5 91 RX5 "passed" "Z" ∈ AL := AL_in (tb2 (List.mem_of_getElem? (i := 210) rfl)) rfl
theorem wf_RX5_97 : Cond.fieldLink RX5 97 RX4 "known" "Z" ∈ AL := AL_in (tb2 (List.mem_of_getElem? (i := 74) rfl)) rfl
theorem wf_RX6_12 : Cond.fieldLink RX6 12 RX6 "finder" "LTabledFrames$Finder;" ∈ AL := AL_in (tb3 (List.mem_of_getElem? (i := 72) rfl)) rfl
theorem wf_RX6_147 : Cond.fieldLink RX6 147 RX3 "found" "I" ∈ AL := AL_in (tb3 (List.mem_of_getElem? (i := 27) rfl)) rfl
theorem wf_RX6_150 : Cond.fieldLink RX6 150 RX3 "offsets" "[I" ∈ AL := AL_in (tb3 (List.mem_of_getElem? (i := 33) rfl)) rfl
theorem wf_RX6_153 : Cond.fieldLink RX6 153 RX3 "counts" "[I" ∈ AL := AL_in (tb3 (List.mem_of_getElem? (i := 29) rfl)) rfl
theorem wf_RX6_177 : Cond.fieldLink RX6 177 RX3 "letters" "LTabledFrames$Row;" ∈ AL := AL_in (tb3 (List.mem_of_getElem? (i := 25) rfl)) rfl
theorem wf_RX6_202 : Cond.fieldLink RX6 202 RX11 "count" "I" ∈ AL := AL_in (tb1 (List.mem_of_getElem? (i := 133) rfl)) rfl
theorem wf_RX6_213 : Cond.fieldLink RX6 213 RX11 "weights" "[I" ∈ AL := AL_in (tb1 (List.mem_of_getElem? (i := 130) rfl)) rfl
theorem wf_RX6_215 : Cond.fieldLink RX6 215 RX1 "words" "[I" ∈ AL := AL_in (tb1 (List.mem_of_getElem? (i := 205) rfl)) rfl
theorem wf_RX6_218 : Cond.fieldLink RX6 218 RX1 "lengths" "[I" ∈ AL := AL_in (tb1 (List.mem_of_getElem? (i := 202) rfl)) rfl
theorem wf_RX6_23 : Cond.fieldLink RX6 23 RX6 "body" "LTabledFrames$Row;" ∈ AL := AL_in (tb3 (List.mem_of_getElem? (i := 73) rfl)) rfl
theorem wf_RX6_266 : Cond.fieldLink RX6 266 RX3 "copies" "[I" ∈ AL := AL_in (tb3 (List.mem_of_getElem? (i := 31) rfl)) rfl
theorem wf_RX6_269 : Cond.fieldLink RX6 269 RX10 "log" "I" ∈ AL := AL_in (tb1 (List.mem_of_getElem? (i := 74) rfl)) rfl
theorem wf_RX6_30 : Cond.fieldLink RX6 30 RX6 "code" "LTabledFrames$Code;" ∈ AL := AL_in (tb3 (List.mem_of_getElem? (i := 75) rfl)) rfl
theorem wf_RX6_36 : Cond.fieldLink RX6 36 RX6 "own" "[LTabledFrames$Table;" ∈ AL := AL_in (tb3 (List.mem_of_getElem? (i := 77) rfl)) rfl
theorem wf_RX6_40 : Cond.fieldLink RX6 40 RX6 "chosen" "[LTabledFrames$Table;" ∈ AL := AL_in (tb3 (List.mem_of_getElem? (i := 78) rfl)) rfl
theorem wf_RX6_43 : Cond.fieldLink RX6 43 RX6 "states" "[I" ∈ AL := AL_in (tb3 (List.mem_of_getElem? (i := 79) rfl)) rfl
theorem wf_RX6_47 : Cond.fieldLink RX6 47 RX6 "values" "[I" ∈ AL := AL_in (tb3 (List.mem_of_getElem? (i := 80) rfl)) rfl
theorem wf_RX6_50 : Cond.fieldLink RX6 50 RX6 "remembered" "[I" ∈ AL := AL_in (tb3 (List.mem_of_getElem? (i := 81) rfl)) rfl
theorem wf_RX6_53 : Cond.fieldLink RX6 53 RX6 "tried" "[I" ∈ AL := AL_in (tb3 (List.mem_of_getElem? (i := 82) rfl)) rfl
theorem wf_RX6_56 : Cond.fieldLink RX6 56 RX6 "often" "[I" ∈ AL := AL_in (tb3 (List.mem_of_getElem? (i := 83) rfl)) rfl
theorem wf_RX6_59 : Cond.fieldLink RX6 59 RX6 "row" "LTabledFrames$Row;" ∈ AL := AL_in (tb3 (List.mem_of_getElem? (i := 84) rfl)) rfl
theorem wf_RX6_62 : Cond.fieldLink RX6 62 RX6 "made" "LTabledFrames$Row;" ∈ AL := AL_in (tb3 (List.mem_of_getElem? (i := 85) rfl)) rfl
theorem wf_RX6_65 : Cond.fieldLink RX6 65 RX6 "weights" "LTabledFrames$Weights;" ∈ AL := AL_in (tb3 (List.mem_of_getElem? (i := 74) rfl)) rfl
theorem wf_RX6_69 : Cond.fieldLink RX6 69 RX6 "defaults" "[LTabledFrames$Table;" ∈ AL := AL_in (tb3 (List.mem_of_getElem? (i := 76) rfl)) rfl
theorem wf_RX6_73 : Cond.fieldLink RX6 73 RX6 "level" "I" ∈ AL := AL_in (tb3 (List.mem_of_getElem? (i := 86) rfl)) rfl
theorem wf_RX6_77 : Cond.fieldLink RX6 77 RX8 "count" "I" ∈ AL := AL_in (tb1 (List.mem_of_getElem? (i := 42) rfl)) rfl
theorem wf_RX6_80 : Cond.fieldLink RX6 80 RX2 "number" "I" ∈ AL := AL_in (tb1 (List.mem_of_getElem? (i := 220) rfl)) rfl
theorem wf_RX6_93 : Cond.fieldLink RX6 93 RX2 "content" "LTabledFrames$Row;" ∈ AL := AL_in (tb1 (List.mem_of_getElem? (i := 234) rfl)) rfl
theorem wf_RX7_15 : Cond.fieldLink RX7 15 RX7 "noted" "[I" ∈ AL := AL_in (tb1 (List.mem_of_getElem? (i := 172) rfl)) rfl
theorem wf_RX7_24 : Cond.fieldLink RX7 24 RX7 "fault" "I" ∈ AL := AL_in (tb1 (List.mem_of_getElem? (i := 164) rfl)) rfl
theorem wf_RX7_28 : Cond.fieldLink RX7 28 RX7 "place" "I" ∈ AL := AL_in (tb1 (List.mem_of_getElem? (i := 166) rfl)) rfl
theorem wf_RX7_9 : Cond.fieldLink RX7 9 RX7 "told" "[I" ∈ AL := AL_in (tb1 (List.mem_of_getElem? (i := 168) rfl)) rfl
theorem wf_RX8_15 : Cond.fieldLink RX8 15 RX8 "bytes" "[B" ∈ AL := AL_in (tb1 (List.mem_of_getElem? (i := 35) rfl)) rfl
theorem wf_RX8_21 : Cond.fieldLink RX8 21 RX8 "count" "I" ∈ AL := AL_in (tb1 (List.mem_of_getElem? (i := 44) rfl)) rfl
theorem wf_RX8_36 : Cond.fieldLink RX8 36 RX8 "waiting" "J" ∈ AL := AL_in (tb1 (List.mem_of_getElem? (i := 47) rfl)) rfl
theorem wf_RX8_40 : Cond.fieldLink RX8 40 RX8 "waitingBits" "I" ∈ AL := AL_in (tb1 (List.mem_of_getElem? (i := 48) rfl)) rfl
theorem wf_RX9_11 : Cond.fieldLink RX9 11 RX9 "latest" "[LTabledFrames$Table;" ∈ AL := AL_in (tb2 (List.mem_of_getElem? (i := 126) rfl)) rfl
theorem wf_RX9_115 : Cond.fieldLink RX9 115 RX9 "wanted" "I" ∈ AL := AL_in (tb2 (List.mem_of_getElem? (i := 146) rfl)) rfl
theorem wf_RX9_122 : Cond.fieldLink RX9 122 RX9 "modes" "I" ∈ AL := AL_in (tb2 (List.mem_of_getElem? (i := 147) rfl)) rfl
theorem wf_RX9_142 : Cond.fieldLink RX9 142 RX9 "used" "I" ∈ AL := AL_in (tb2 (List.mem_of_getElem? (i := 149) rfl)) rfl
theorem wf_RX9_145 : Cond.fieldLink RX9 145 RX9 "blockFrom" "I" ∈ AL := AL_in (tb2 (List.mem_of_getElem? (i := 148) rfl)) rfl
theorem wf_RX9_156 : Cond.fieldLink RX9 156 RX10 "log" "I" ∈ AL := AL_in (tb1 (List.mem_of_getElem? (i := 73) rfl)) rfl
theorem wf_RX9_167 : Cond.fieldLink RX9 167 RX4 "row" "LTabledFrames$Row;" ∈ AL := AL_in (tb2 (List.mem_of_getElem? (i := 70) rfl)) rfl
theorem wf_RX9_17 : Cond.fieldLink RX9 17 RX9 "known" "[Z" ∈ AL := AL_in (tb2 (List.mem_of_getElem? (i := 128) rfl)) rfl
theorem wf_RX9_178 : Cond.fieldLink RX9 178 RX0 "left" "I" ∈ AL := AL_in (tb1 (List.mem_of_getElem? (i := 114) rfl)) rfl
theorem wf_RX9_190 : Cond.fieldLink RX9 190 RX0 "lacking" "Z" ∈ AL := AL_in (tb1 (List.mem_of_getElem? (i := 118) rfl)) rfl
theorem wf_RX9_21 : Cond.fieldLink RX9 21 RX9 "own" "[LTabledFrames$Table;" ∈ AL := AL_in (tb2 (List.mem_of_getElem? (i := 131) rfl)) rfl
theorem wf_RX9_24 : Cond.fieldLink RX9 24 RX9 "states" "[I" ∈ AL := AL_in (tb2 (List.mem_of_getElem? (i := 133) rfl)) rfl
theorem wf_RX9_28 : Cond.fieldLink RX9 28 RX9 "remembered" "[I" ∈ AL := AL_in (tb2 (List.mem_of_getElem? (i := 134) rfl)) rfl
theorem wf_RX9_34 : Cond.fieldLink RX9 34 RX9 "back" "LTabledFrames$Back;" ∈ AL := AL_in (tb2 (List.mem_of_getElem? (i := 137) rfl)) rfl
theorem wf_RX9_43 : Cond.fieldLink RX9 43 RX9 "nothing" "LTabledFrames$Row;" ∈ AL := AL_in (tb2 (List.mem_of_getElem? (i := 138) rfl)) rfl
theorem wf_RX9_47 : Cond.fieldLink RX9 47 RX9 "made" "LTabledFrames$Row;" ∈ AL := AL_in (tb2 (List.mem_of_getElem? (i := 139) rfl)) rfl
theorem wf_RX9_50 : Cond.fieldLink RX9 50 RX9 "content" "LTabledFrames$Row;" ∈ AL := AL_in (tb2 (List.mem_of_getElem? (i := 140) rfl)) rfl
theorem wf_RX9_53 : Cond.fieldLink RX9 53 RX9 "report" "LTabledFrames$Report;" ∈ AL := AL_in (tb2 (List.mem_of_getElem? (i := 135) rfl)) rfl
theorem wf_RX9_57 : Cond.fieldLink RX9 57 RX9 "letters" "LTabledFrames$Letters;" ∈ AL := AL_in (tb2 (List.mem_of_getElem? (i := 136) rfl)) rfl
theorem wf_RX9_61 : Cond.fieldLink RX9 61 RX9 "defaults" "[LTabledFrames$Table;" ∈ AL := AL_in (tb2 (List.mem_of_getElem? (i := 132) rfl)) rfl
theorem wf_RX9_65 : Cond.fieldLink RX9 65 RX8 "count" "I" ∈ AL := AL_in (tb1 (List.mem_of_getElem? (i := 39) rfl)) rfl
theorem wf_RX9_69 : Cond.fieldLink RX9 69 RX9 "frameFrom" "I" ∈ AL := AL_in (tb2 (List.mem_of_getElem? (i := 141) rfl)) rfl
theorem wf_RX9_72 : Cond.fieldLink RX9 72 RX9 "span" "J" ∈ AL := AL_in (tb2 (List.mem_of_getElem? (i := 145) rfl)) rfl
theorem wf_RX9_84 : Cond.fieldLink RX9 84 RX9 "limit" "I" ∈ AL := AL_in (tb2 (List.mem_of_getElem? (i := 143) rfl)) rfl
theorem wf_RX9_87 : Cond.fieldLink RX9 87 RX2 "content" "LTabledFrames$Row;" ∈ AL := AL_in (tb1 (List.mem_of_getElem? (i := 233) rfl)) rfl
theorem wf_RX9_90 : Cond.fieldLink RX9 90 RX2 "tabled" "Z" ∈ AL := AL_in (tb1 (List.mem_of_getElem? (i := 225) rfl)) rfl
theorem wf_RX9_94 : Cond.fieldLink RX9 94 RX2 "tables" "[LTabledFrames$Table;" ∈ AL := AL_in (tb1 (List.mem_of_getElem? (i := 229) rfl)) rfl
theorem wi_RJ10 : Cond.initialized RJ10 ∈ AL := AL_in (tb1 (List.mem_of_getElem? (i := 10) rfl)) rfl
theorem wi_RJ7 : Cond.initialized RJ7 ∈ AL := AL_in (tb1 (List.mem_of_getElem? (i := 17) rfl)) rfl
theorem wi_RX0 : Cond.initialized RX0 ∈ AL := AL_in (tb1 (List.mem_of_getElem? (i := 6) rfl)) rfl
theorem wi_RX1 : Cond.initialized RX1 ∈ AL := AL_in (tb1 (List.mem_of_getElem? (i := 9) rfl)) rfl
theorem wi_RX10 : Cond.initialized RX10 ∈ AL := AL_in (tb1 (List.mem_of_getElem? (i := 5) rfl)) rfl
theorem wi_RX11 : Cond.initialized RX11 ∈ AL := AL_in (tb1 (List.mem_of_getElem? (i := 4) rfl)) rfl
theorem wi_RX12 : Cond.initialized RX12 ∈ AL := AL_in (tb1 (List.mem_of_getElem? (i := 1) rfl)) rfl
theorem wi_RX13 : Cond.initialized RX13 ∈ AL := AL_in (tb1 (List.mem_of_getElem? (i := 16) rfl)) rfl
theorem wi_RX2 : Cond.initialized RX2 ∈ AL := AL_in (tb1 (List.mem_of_getElem? (i := 8) rfl)) rfl
theorem wi_RX3 : Cond.initialized RX3 ∈ AL := AL_in (tb1 (List.mem_of_getElem? (i := 15) rfl)) rfl
theorem wi_RX4 : Cond.initialized RX4 ∈ AL := AL_in (tb1 (List.mem_of_getElem? (i := 12) rfl)) rfl
theorem wi_RX5 : Cond.initialized RX5 ∈ AL := AL_in (tb1 (List.mem_of_getElem? (i := 11) rfl)) rfl
theorem wi_RX6 : Cond.initialized RX6 ∈ AL := AL_in (tb1 (List.mem_of_getElem? (i := 14) rfl)) rfl
theorem wi_RX7 : Cond.initialized RX7 ∈ AL := AL_in (tb1 (List.mem_of_getElem? (i := 7) rfl)) rfl
theorem wi_RX8 : Cond.initialized RX8 ∈ AL := AL_in (tb1 (List.mem_of_getElem? (i := 2) rfl)) rfl
theorem wi_RX9 : Cond.initialized RX9 ∈ AL := AL_in (tb1 (List.mem_of_getElem? (i := 13) rfl)) rfl
theorem wi_math : Cond.initialized "java/lang/Math" ∈ AL := AL_in (tb1 (List.mem_of_getElem? (i := 3) rfl)) rfl
theorem wk_RL_13 : Cond.constantLong RL 13 4294967295 ∈ AL := AL_in (tb8 (List.mem_of_getElem? (i := 197) rfl)) rfl
theorem wk_RX0_47 : Cond.constantLong RX0 47 255 ∈ AL := AL_in (tb4 (List.mem_of_getElem? (i := 25) rfl)) rfl
theorem wk_RX10_118 : Cond.constantLong RX10 118 3 ∈ AL := AL_in (tb6 (List.mem_of_getElem? (i := 32) rfl)) rfl
theorem wk_RX12_190 : Cond.constantLong RX12 190 (-4417276706812531889) ∈ AL := AL_in (tb5 (List.mem_of_getElem? (i := 98) rfl)) rfl
theorem wk_RX12_196 : Cond.constantLong RX12 196 (-7046029288634856825) ∈ AL := AL_in (tb5 (List.mem_of_getElem? (i := 102) rfl)) rfl
theorem wk_RX12_210 : Cond.constantLong RX12 210 3 ∈ AL := AL_in (tb5 (List.mem_of_getElem? (i := 46) rfl)) rfl
theorem wk_RX12_79 : Cond.constant RX12 79 1664525 ∈ AL := AL_in (tb3 (List.mem_of_getElem? (i := 164) rfl)) rfl
theorem wk_RX12_80 : Cond.constant RX12 80 1013904223 ∈ AL := AL_in (tb3 (List.mem_of_getElem? (i := 165) rfl)) rfl
theorem wk_RX13_107 : Cond.constant RX13 107 80000 ∈ AL := AL_in (tb6 (List.mem_of_getElem? (i := 101) rfl)) rfl
theorem wk_RX13_153 : Cond.constant RX13 153 1664525 ∈ AL := AL_in (tb7 (List.mem_of_getElem? (i := 98) rfl)) rfl
theorem wk_RX13_154 : Cond.constant RX13 154 1013904223 ∈ AL := AL_in (tb7 (List.mem_of_getElem? (i := 99) rfl)) rfl
theorem wk_RX13_161 : Cond.constantLong RX13 161 (-4417276706812531889) ∈ AL := AL_in (tb7 (List.mem_of_getElem? (i := 141) rfl)) rfl
theorem wk_RX13_167 : Cond.constantLong RX13 167 (-7046029288634856825) ∈ AL := AL_in (tb7 (List.mem_of_getElem? (i := 152) rfl)) rfl
theorem wk_RX13_169 : Cond.constantLong RX13 169 2870177450012600261 ∈ AL := AL_in (tb7 (List.mem_of_getElem? (i := 139) rfl)) rfl
theorem wk_RX13_171 : Cond.constantLong RX13 171 6983438078262162902 ∈ AL := AL_in (tb7 (List.mem_of_getElem? (i := 140) rfl)) rfl
theorem wk_RX13_173 : Cond.constantLong RX13 173 7046029288634856825 ∈ AL := AL_in (tb7 (List.mem_of_getElem? (i := 142) rfl)) rfl
theorem wk_RX13_183 : Cond.constantLong RX13 183 (-8796714831421723037) ∈ AL := AL_in (tb7 (List.mem_of_getElem? (i := 153) rfl)) rfl
theorem wk_RX13_185 : Cond.constantLong RX13 185 1609587929392839161 ∈ AL := AL_in (tb7 (List.mem_of_getElem? (i := 154) rfl)) rfl
theorem wk_RX13_254 : Cond.constantLong RX13 254 3962610743 ∈ AL := AL_in (tb7 (List.mem_of_getElem? (i := 159) rfl)) rfl
theorem wk_RX13_300 : Cond.constantLong RX13 300 407710288 ∈ AL := AL_in (tb7 (List.mem_of_getElem? (i := 237) rfl)) rfl
theorem wk_RX13_302 : Cond.constantLong RX13 302 407710303 ∈ AL := AL_in (tb7 (List.mem_of_getElem? (i := 238) rfl)) rfl
theorem wk_RX13_304 : Cond.constantLong RX13 304 4247762216 ∈ AL := AL_in (tb7 (List.mem_of_getElem? (i := 239) rfl)) rfl
theorem wk_RX13_309 : Cond.constantLong RX13 309 8 ∈ AL := AL_in (tb8 (List.mem_of_getElem? (i := 4) rfl)) rfl
theorem wk_RX13_319 : Cond.constantLong RX13 319 256 ∈ AL := AL_in (tb8 (List.mem_of_getElem? (i := 9) rfl)) rfl
theorem wk_RX13_321 : Cond.constant RX13 321 2147483647 ∈ AL := AL_in (tb8 (List.mem_of_getElem? (i := 10) rfl)) rfl
theorem wk_RX13_322 : Cond.constantLong RX13 322 131072 ∈ AL := AL_in (tb8 (List.mem_of_getElem? (i := 11) rfl)) rfl
theorem wk_RX13_337 : Cond.constantLong RX13 337 4294967295 ∈ AL := AL_in (tb8 (List.mem_of_getElem? (i := 16) rfl)) rfl
theorem wk_RX13_342 : Cond.constantLong RX13 342 4 ∈ AL := AL_in (tb8 (List.mem_of_getElem? (i := 17) rfl)) rfl
theorem wk_RX13_402 : Cond.constantLong RX13 402 3 ∈ AL := AL_in (tb8 (List.mem_of_getElem? (i := 77) rfl)) rfl
theorem wk_RX13_422 : Cond.constantLong RX13 422 65536 ∈ AL := AL_in (tb8 (List.mem_of_getElem? (i := 102) rfl)) rfl
theorem wk_RX13_465 : Cond.constantLong RX13 465 2 ∈ AL := AL_in (tb8 (List.mem_of_getElem? (i := 147) rfl)) rfl
theorem wk_RX13_74 : Cond.constant RX13 74 140000 ∈ AL := AL_in (tb6 (List.mem_of_getElem? (i := 99) rfl)) rfl
theorem wk_RX13_78 : Cond.constant RX13 78 131072 ∈ AL := AL_in (tb6 (List.mem_of_getElem? (i := 100) rfl)) rfl
theorem wk_RX2_55 : Cond.constantLong RX2 55 3962610743 ∈ AL := AL_in (tb3 (List.mem_of_getElem? (i := 224) rfl)) rfl
theorem wk_RX3_89 : Cond.constant RX3 89 (-1640531535) ∈ AL := AL_in (tb5 (List.mem_of_getElem? (i := 169) rfl)) rfl
theorem wk_RX5_103 : Cond.constantLong RX5 103 4 ∈ AL := AL_in (tb4 (List.mem_of_getElem? (i := 91) rfl)) rfl
theorem wk_RX5_116 : Cond.constantLong RX5 116 407710288 ∈ AL := AL_in (tb4 (List.mem_of_getElem? (i := 105) rfl)) rfl
theorem wk_RX5_118 : Cond.constantLong RX5 118 407710303 ∈ AL := AL_in (tb4 (List.mem_of_getElem? (i := 106) rfl)) rfl
theorem wk_RX5_120 : Cond.constantLong RX5 120 4247762216 ∈ AL := AL_in (tb4 (List.mem_of_getElem? (i := 107) rfl)) rfl
theorem wk_RX5_157 : Cond.constantLong RX5 157 8 ∈ AL := AL_in (tb4 (List.mem_of_getElem? (i := 121) rfl)) rfl
theorem wk_RX5_178 : Cond.constantLong RX5 178 2147483647 ∈ AL := AL_in (tb4 (List.mem_of_getElem? (i := 134) rfl)) rfl
theorem wk_RX5_189 : Cond.constantLong RX5 189 3 ∈ AL := AL_in (tb4 (List.mem_of_getElem? (i := 157) rfl)) rfl
theorem wk_RX6_125 : Cond.constantLong RX6 125 4247762216 ∈ AL := AL_in (tb5 (List.mem_of_getElem? (i := 128) rfl)) rfl
theorem wk_RX8_51 : Cond.constantLong RX8 51 2870177450012600261 ∈ AL := AL_in (tb5 (List.mem_of_getElem? (i := 106) rfl)) rfl
theorem wk_RX8_64 : Cond.constantLong RX8 64 (-7046029288634856825) ∈ AL := AL_in (tb5 (List.mem_of_getElem? (i := 104) rfl)) rfl
theorem wk_RX8_66 : Cond.constantLong RX8 66 (-8796714831421723037) ∈ AL := AL_in (tb5 (List.mem_of_getElem? (i := 105) rfl)) rfl
theorem wk_RX8_68 : Cond.constantLong RX8 68 (-4417276706812531889) ∈ AL := AL_in (tb5 (List.mem_of_getElem? (i := 92) rfl)) rfl
theorem wk_RX8_70 : Cond.constantLong RX8 70 1609587929392839161 ∈ AL := AL_in (tb5 (List.mem_of_getElem? (i := 107) rfl)) rfl
theorem wk_RX8_72 : Cond.constantLong RX8 72 6983438078262162902 ∈ AL := AL_in (tb5 (List.mem_of_getElem? (i := 91) rfl)) rfl
theorem wk_RX8_74 : Cond.constantLong RX8 74 7046029288634856825 ∈ AL := AL_in (tb5 (List.mem_of_getElem? (i := 93) rfl)) rfl
theorem wk_RX9_76 : Cond.constantLong RX9 76 131072 ∈ AL := AL_in (tb4 (List.mem_of_getElem? (i := 143) rfl)) rfl
theorem wl_RL_12 : Cond.methodLink RL 12 yX13_init ∈ AL := AL_in (tb6 (List.mem_of_getElem? (i := 95) rfl)) rfl
theorem wl_RL_15 : Cond.methodLink RL 15 yX12_feed ∈ AL := AL_in (tb3 (List.mem_of_getElem? (i := 152) rfl)) rfl
theorem wl_RL_19 : Cond.methodLink RL 19 yX13_feed ∈ AL := AL_in (tb7 (List.mem_of_getElem? (i := 90) rfl)) rfl
theorem wl_RL_20 : Cond.methodLink RL 20 yX12_fill ∈ AL := AL_in (tb3 (List.mem_of_getElem? (i := 160) rfl)) rfl
theorem wl_RL_24 : Cond.methodLink RL 24 yX13_fill ∈ AL := AL_in (tb7 (List.mem_of_getElem? (i := 94) rfl)) rfl
theorem wl_RL_25 : Cond.methodLink RL 25 yX12_size ∈ AL := AL_in (tb3 (List.mem_of_getElem? (i := 166) rfl)) rfl
theorem wl_RL_29 : Cond.methodLink RL 29 yX13_size ∈ AL := AL_in (tb7 (List.mem_of_getElem? (i := 100) rfl)) rfl
theorem wl_RL_30 : Cond.methodLink RL 30 yX12_set ∈ AL := AL_in (tb3 (List.mem_of_getElem? (i := 170) rfl)) rfl
theorem wl_RL_34 : Cond.methodLink RL 34 yX13_set ∈ AL := AL_in (tb7 (List.mem_of_getElem? (i := 104) rfl)) rfl
theorem wl_RL_35 : Cond.methodLink RL 35 yX12_cut ∈ AL := AL_in (tb3 (List.mem_of_getElem? (i := 182) rfl)) rfl
theorem wl_RL_39 : Cond.methodLink RL 39 yX13_cut ∈ AL := AL_in (tb7 (List.mem_of_getElem? (i := 108) rfl)) rfl
theorem wl_RL_40 : Cond.methodLink RL 40 yX12_again ∈ AL := AL_in (tb3 (List.mem_of_getElem? (i := 186) rfl)) rfl
theorem wl_RL_43 : Cond.methodLink RL 43 yX13_again ∈ AL := AL_in (tb7 (List.mem_of_getElem? (i := 112) rfl)) rfl
theorem wl_RL_44 : Cond.methodLink RL 44 yX12_swap ∈ AL := AL_in (tb3 (List.mem_of_getElem? (i := 196) rfl)) rfl
theorem wl_RL_47 : Cond.methodLink RL 47 yX13_swap ∈ AL := AL_in (tb7 (List.mem_of_getElem? (i := 116) rfl)) rfl
theorem wl_RL_48 : Cond.methodLink RL 48 yX12_differ ∈ AL := AL_in (tb3 (List.mem_of_getElem? (i := 200) rfl)) rfl
theorem wl_RL_51 : Cond.methodLink RL 51 yX13_differ ∈ AL := AL_in (tb7 (List.mem_of_getElem? (i := 120) rfl)) rfl
theorem wl_RL_52 : Cond.methodLink RL 52 yX12_keep ∈ AL := AL_in (tb3 (List.mem_of_getElem? (i := 205) rfl)) rfl
theorem wl_RL_55 : Cond.methodLink RL 55 yX13_keep ∈ AL := AL_in (tb7 (List.mem_of_getElem? (i := 155) rfl)) rfl
theorem wl_RL_56 : Cond.methodLink RL 56 yX12_open ∈ AL := AL_in (tb4 (List.mem_of_getElem? (i := 70) rfl)) rfl
theorem wl_RL_60 : Cond.methodLink RL 60 yX13_open ∈ AL := AL_in (tb7 (List.mem_of_getElem? (i := 225) rfl)) rfl
theorem wl_RL_61 : Cond.methodLink RL 61 yX12_place ∈ AL := AL_in (tb5 (List.mem_of_getElem? (i := 112) rfl)) rfl
theorem wl_RL_64 : Cond.methodLink RL 64 yX13_place ∈ AL := AL_in (tb7 (List.mem_of_getElem? (i := 128) rfl)) rfl
theorem wl_RL_65 : Cond.methodLink RL 65 yX12_pack ∈ AL := AL_in (tb5 (List.mem_of_getElem? (i := 116) rfl)) rfl
theorem wl_RL_68 : Cond.methodLink RL 68 yX13_pack ∈ AL := AL_in (tb8 (List.mem_of_getElem? (i := 98) rfl)) rfl
theorem wl_RL_69 : Cond.methodLink RL 69 yX12_out ∈ AL := AL_in (tb6 (List.mem_of_getElem? (i := 65) rfl)) rfl
theorem wl_RL_72 : Cond.methodLink RL 72 yX13_out ∈ AL := AL_in (tb7 (List.mem_of_getElem? (i := 124) rfl)) rfl
theorem wl_RL_73 : Cond.methodLink RL 73 yX12_sum ∈ AL := AL_in (tb6 (List.mem_of_getElem? (i := 69) rfl)) rfl
theorem wl_RL_77 : Cond.methodLink RL 77 yX13_sum ∈ AL := AL_in (tb7 (List.mem_of_getElem? (i := 132) rfl)) rfl
theorem wl_RL_78 : Cond.methodLink RL 78 yX12_told ∈ AL := AL_in (tb6 (List.mem_of_getElem? (i := 74) rfl)) rfl
theorem wl_RL_81 : Cond.methodLink RL 81 yX13_told ∈ AL := AL_in (tb8 (List.mem_of_getElem? (i := 82) rfl)) rfl
theorem wl_RL_82 : Cond.methodLink RL 82 yX12_sequence ∈ AL := AL_in (tb6 (List.mem_of_getElem? (i := 78) rfl)) rfl
theorem wl_RL_85 : Cond.methodLink RL 85 yX13_sequence_ ∈ AL := AL_in (tb8 (List.mem_of_getElem? (i := 86) rfl)) rfl
theorem wl_RL_86 : Cond.methodLink RL 86 yX12_table ∈ AL := AL_in (tb6 (List.mem_of_getElem? (i := 82) rfl)) rfl
theorem wl_RL_89 : Cond.methodLink RL 89 yX13_table_ ∈ AL := AL_in (tb8 (List.mem_of_getElem? (i := 90) rfl)) rfl
theorem wl_RL_9 : Cond.methodLink RL 9 yX12_init ∈ AL := AL_in (tb1 (List.mem_of_getElem? (i := 20) rfl)) rfl
theorem wl_RL_90 : Cond.methodLink RL 90 yX12_bits ∈ AL := AL_in (tb6 (List.mem_of_getElem? (i := 89) rfl)) rfl
theorem wl_RL_93 : Cond.methodLink RL 93 yX13_bits ∈ AL := AL_in (tb8 (List.mem_of_getElem? (i := 94) rfl)) rfl
theorem wl_RX0_1 : Cond.methodLink RX0 1 objectInit ∈ AL := AL_in (tb1 (List.mem_of_getElem? (i := 109) rfl)) rfl
theorem wl_RX0_27 : Cond.methodLink RX0 27 yX8_get ∈ AL := AL_in (tb4 (List.mem_of_getElem? (i := 11) rfl)) rfl
theorem wl_RX0_37 : Cond.methodLink RX0 37 yX0_bitsFrom ∈ AL := AL_in (tb4 (List.mem_of_getElem? (i := 21) rfl)) rfl
theorem wl_RX0_41 : Cond.methodLink RX0 41 Lib.Math.min.name ∈ AL := AL_in (tb4 (List.mem_of_getElem? (i := 198) rfl)) rfl
theorem wl_RX10_103 : Cond.methodLink RX10 103 yX8_addBits ∈ AL := AL_in (tb6 (List.mem_of_getElem? (i := 23) rfl)) rfl
theorem wl_RX10_107 : Cond.methodLink RX10 107 yX10_writeCount ∈ AL := AL_in (tb6 (List.mem_of_getElem? (i := 24) rfl)) rfl
theorem wl_RX10_111 : Cond.methodLink RX10 111 yX10_writeZeros ∈ AL := AL_in (tb6 (List.mem_of_getElem? (i := 28) rfl)) rfl
theorem wl_RX10_115 : Cond.methodLink RX10 115 yX8_endBits ∈ AL := AL_in (tb6 (List.mem_of_getElem? (i := 33) rfl)) rfl
theorem wl_RX10_120 : Cond.methodLink RX10 120 yX10_baseAt ∈ AL := AL_in (tb6 (List.mem_of_getElem? (i := 51) rfl)) rfl
theorem wl_RX10_123 : Cond.methodLink RX10 123 yX10_bitsAt ∈ AL := AL_in (tb6 (List.mem_of_getElem? (i := 52) rfl)) rfl
theorem wl_RX10_3 : Cond.methodLink RX10 3 objectInit ∈ AL := AL_in (tb1 (List.mem_of_getElem? (i := 70) rfl)) rfl
theorem wl_RX10_34 : Cond.methodLink RX10 34 Lib.Math.min.name ∈ AL := AL_in (tb2 (List.mem_of_getElem? (i := 23) rfl)) rfl
theorem wl_RX10_44 : Cond.methodLink RX10 44 arraycopyName ∈ AL := AL_in (tb2 (List.mem_of_getElem? (i := 26) rfl)) rfl
theorem wl_RX10_53 : Cond.methodLink RX10 53 yX10_build ∈ AL := AL_in (tb2 (List.mem_of_getElem? (i := 31) rfl)) rfl
theorem wl_RX10_75 : Cond.methodLink RX10 75 yX10_takeBits ∈ AL := AL_in (tb3 (List.mem_of_getElem? (i := 239) rfl)) rfl
theorem wl_RX10_79 : Cond.methodLink RX10 79 yX10_takeCount ∈ AL := AL_in (tb4 (List.mem_of_getElem? (i := 3) rfl)) rfl
theorem wl_RX10_82 : Cond.methodLink RX10 82 Lib.Math.abs.name ∈ AL := AL_in (tb2 (List.mem_of_getElem? (i := 35) rfl)) rfl
theorem wl_RX10_89 : Cond.methodLink RX10 89 yX10_spread ∈ AL := AL_in (tb2 (List.mem_of_getElem? (i := 38) rfl)) rfl
theorem wl_RX10_93 : Cond.methodLink RX10 93 yX10_symbolAt ∈ AL := AL_in (tb2 (List.mem_of_getElem? (i := 42) rfl)) rfl
theorem wl_RX10_96 : Cond.methodLink RX10 96 Lib.Math.max.name ∈ AL := AL_in (tb6 (List.mem_of_getElem? (i := 14) rfl)) rfl
theorem wl_RX10_99 : Cond.methodLink RX10 99 yX10_mostCounted ∈ AL := AL_in (tb6 (List.mem_of_getElem? (i := 15) rfl)) rfl
theorem wl_RX11_107 : Cond.methodLink RX11 107 yJ7_fill_53178 ∈ AL := AL_in (tb5 (List.mem_of_getElem? (i := 200) rfl)) rfl
theorem wl_RX11_114 : Cond.methodLink RX11 114 yX11_join ∈ AL := AL_in (tb5 (List.mem_of_getElem? (i := 201) rfl)) rfl
theorem wl_RX11_118 : Cond.methodLink RX11 118 yX11_least ∈ AL := AL_in (tb5 (List.mem_of_getElem? (i := 205) rfl)) rfl
theorem wl_RX11_121 : Cond.methodLink RX11 121 Lib.Math.max.name ∈ AL := AL_in (tb5 (List.mem_of_getElem? (i := 209) rfl)) rfl
theorem wl_RX11_17 : Cond.methodLink RX11 17 yX10_init ∈ AL := AL_in (tb1 (List.mem_of_getElem? (i := 67) rfl)) rfl
theorem wl_RX11_24 : Cond.methodLink RX11 24 yX0_init ∈ AL := AL_in (tb1 (List.mem_of_getElem? (i := 106) rfl)) rfl
theorem wl_RX11_3 : Cond.methodLink RX11 3 objectInit ∈ AL := AL_in (tb1 (List.mem_of_getElem? (i := 64) rfl)) rfl
theorem wl_RX11_38 : Cond.methodLink RX11 38 yX8_get ∈ AL := AL_in (tb3 (List.mem_of_getElem? (i := 229) rfl)) rfl
theorem wl_RX11_44 : Cond.methodLink RX11 44 yX11_readHalves ∈ AL := AL_in (tb3 (List.mem_of_getElem? (i := 230) rfl)) rfl
theorem wl_RX11_48 : Cond.methodLink RX11 48 yX10_read ∈ AL := AL_in (tb3 (List.mem_of_getElem? (i := 235) rfl)) rfl
theorem wl_RX11_52 : Cond.methodLink RX11 52 yX0_begin ∈ AL := AL_in (tb4 (List.mem_of_getElem? (i := 7) rfl)) rfl
theorem wl_RX11_56 : Cond.methodLink RX11 56 yX11_readInTurn ∈ AL := AL_in (tb4 (List.mem_of_getElem? (i := 13) rfl)) rfl
theorem wl_RX11_60 : Cond.methodLink RX11 60 yX11_complete ∈ AL := AL_in (tb4 (List.mem_of_getElem? (i := 39) rfl)) rfl
theorem wl_RX11_63 : Cond.methodLink RX11 63 Lib.Math.min.name ∈ AL := AL_in (tb3 (List.mem_of_getElem? (i := 234) rfl)) rfl
theorem wl_RX11_76 : Cond.methodLink RX11 76 yX0_take ∈ AL := AL_in (tb4 (List.mem_of_getElem? (i := 17) rfl)) rfl
theorem wl_RX11_84 : Cond.methodLink RX11 84 yX10_symbolAt ∈ AL := AL_in (tb4 (List.mem_of_getElem? (i := 26) rfl)) rfl
theorem wl_RX11_87 : Cond.methodLink RX11 87 yX10_bitsAt ∈ AL := AL_in (tb4 (List.mem_of_getElem? (i := 27) rfl)) rfl
theorem wl_RX11_93 : Cond.methodLink RX11 93 yX11_endWith ∈ AL := AL_in (tb4 (List.mem_of_getElem? (i := 31) rfl)) rfl
theorem wl_RX11_97 : Cond.methodLink RX11 97 yX10_baseAt ∈ AL := AL_in (tb4 (List.mem_of_getElem? (i := 35) rfl)) rfl
theorem wl_RX12_103 : Cond.methodLink RX12 103 yX2_read ∈ AL := AL_in (tb3 (List.mem_of_getElem? (i := 213) rfl)) rfl
theorem wl_RX12_11 : Cond.methodLink RX12 11 yX8_init ∈ AL := AL_in (tb1 (List.mem_of_getElem? (i := 28) rfl)) rfl
theorem wl_RX12_111 : Cond.methodLink RX12 111 yX2_takeContent ∈ AL := AL_in (tb4 (List.mem_of_getElem? (i := 65) rfl)) rfl
theorem wl_RX12_121 : Cond.methodLink RX12 121 yX5_openAll ∈ AL := AL_in (tb4 (List.mem_of_getElem? (i := 74) rfl)) rfl
theorem wl_RX12_129 : Cond.methodLink RX12 129 yX12_spareCameOut ∈ AL := AL_in (tb5 (List.mem_of_getElem? (i := 108) rfl)) rfl
theorem wl_RX12_132 : Cond.methodLink RX12 132 yX6_packRow ∈ AL := AL_in (tb5 (List.mem_of_getElem? (i := 120) rfl)) rfl
theorem wl_RX12_136 : Cond.methodLink RX12 136 yX8_sumFrom ∈ AL := AL_in (tb6 (List.mem_of_getElem? (i := 73) rfl)) rfl
theorem wl_RX12_164 : Cond.methodLink RX12 164 yX10_symbolAt ∈ AL := AL_in (tb6 (List.mem_of_getElem? (i := 86) rfl)) rfl
theorem wl_RX12_167 : Cond.methodLink RX12 167 yX10_bitsAt ∈ AL := AL_in (tb6 (List.mem_of_getElem? (i := 87) rfl)) rfl
theorem wl_RX12_170 : Cond.methodLink RX12 170 yX10_baseAt ∈ AL := AL_in (tb6 (List.mem_of_getElem? (i := 88) rfl)) rfl
theorem wl_RX12_192 : Cond.methodLink RX12 192 yX12_turn ∈ AL := AL_in (tb5 (List.mem_of_getElem? (i := 99) rfl)) rfl
theorem wl_RX12_212 : Cond.methodLink RX12 212 yX12_whichOf ∈ AL := AL_in (tb5 (List.mem_of_getElem? (i := 43) rfl)) rfl
theorem wl_RX12_26 : Cond.methodLink RX12 26 yX11_init ∈ AL := AL_in (tb1 (List.mem_of_getElem? (i := 61) rfl)) rfl
theorem wl_RX12_3 : Cond.methodLink RX12 3 objectInit ∈ AL := AL_in (tb1 (List.mem_of_getElem? (i := 23) rfl)) rfl
theorem wl_RX12_33 : Cond.methodLink RX12 33 yX7_init ∈ AL := AL_in (tb1 (List.mem_of_getElem? (i := 160) rfl)) rfl
theorem wl_RX12_48 : Cond.methodLink RX12 48 yX2_init ∈ AL := AL_in (tb1 (List.mem_of_getElem? (i := 186) rfl)) rfl
theorem wl_RX12_51 : Cond.methodLink RX12 51 yX10_init ∈ AL := AL_in (tb2 (List.mem_of_getElem? (i := 12) rfl)) rfl
theorem wl_RX12_52 : Cond.methodLink RX12 52 yX10_buildDefault ∈ AL := AL_in (tb2 (List.mem_of_getElem? (i := 13) rfl)) rfl
theorem wl_RX12_57 : Cond.methodLink RX12 57 yX5_init ∈ AL := AL_in (tb2 (List.mem_of_getElem? (i := 51) rfl)) rfl
theorem wl_RX12_66 : Cond.methodLink RX12 66 yX6_init ∈ AL := AL_in (tb3 (List.mem_of_getElem? (i := 12) rfl)) rfl
theorem wl_RX12_76 : Cond.methodLink RX12 76 yX8_add ∈ AL := AL_in (tb3 (List.mem_of_getElem? (i := 156) rfl)) rfl
theorem wl_RX12_81 : Cond.methodLink RX12 81 yX8_get ∈ AL := AL_in (tb3 (List.mem_of_getElem? (i := 174) rfl)) rfl
theorem wl_RX12_85 : Cond.methodLink RX12 85 yX8_put ∈ AL := AL_in (tb3 (List.mem_of_getElem? (i := 178) rfl)) rfl
theorem wl_RX12_89 : Cond.methodLink RX12 89 yX8_addFrom ∈ AL := AL_in (tb3 (List.mem_of_getElem? (i := 190) rfl)) rfl
theorem wl_RX12_93 : Cond.methodLink RX12 93 Lib.Math.max.name ∈ AL := AL_in (tb3 (List.mem_of_getElem? (i := 204) rfl)) rfl
theorem wl_RX12_99 : Cond.methodLink RX12 99 yX12_unusedDictionary ∈ AL := AL_in (tb3 (List.mem_of_getElem? (i := 209) rfl)) rfl
theorem wl_RX13_1 : Cond.methodLink RX13 1 objectInit ∈ AL := AL_in (tb6 (List.mem_of_getElem? (i := 98) rfl)) rfl
theorem wl_RX13_163 : Cond.methodLink RX13 163 yX13_turn ∈ AL := AL_in (tb7 (List.mem_of_getElem? (i := 149) rfl)) rfl
theorem wl_RX13_175 : Cond.methodLink RX13 175 yX13_eight ∈ AL := AL_in (tb7 (List.mem_of_getElem? (i := 143) rfl)) rfl
theorem wl_RX13_179 : Cond.methodLink RX13 179 yX13_round ∈ AL := AL_in (tb7 (List.mem_of_getElem? (i := 146) rfl)) rfl
theorem wl_RX13_187 : Cond.methodLink RX13 187 yX13_sumOf ∈ AL := AL_in (tb7 (List.mem_of_getElem? (i := 136) rfl)) rfl
theorem wl_RX13_206 : Cond.methodLink RX13 206 yX13_log ∈ AL := AL_in (tb7 (List.mem_of_getElem? (i := 188) rfl)) rfl
theorem wl_RX13_213 : Cond.methodLink RX13 213 yX13_noCounts ∈ AL := AL_in (tb7 (List.mem_of_getElem? (i := 180) rfl)) rfl
theorem wl_RX13_216 : Cond.methodLink RX13 216 yX13_forward ∈ AL := AL_in (tb7 (List.mem_of_getElem? (i := 184) rfl)) rfl
theorem wl_RX13_219 : Cond.methodLink RX13 219 yX13_greatest ∈ AL := AL_in (tb7 (List.mem_of_getElem? (i := 207) rfl)) rfl
theorem wl_RX13_222 : Cond.methodLink RX13 222 yX13_table ∈ AL := AL_in (tb7 (List.mem_of_getElem? (i := 191) rfl)) rfl
theorem wl_RX13_226 : Cond.methodLink RX13 226 yX13_toldCounts ∈ AL := AL_in (tb7 (List.mem_of_getElem? (i := 176) rfl)) rfl
theorem wl_RX13_230 : Cond.methodLink RX13 230 yX13_reversed ∈ AL := AL_in (tb7 (List.mem_of_getElem? (i := 195) rfl)) rfl
theorem wl_RX13_234 : Cond.methodLink RX13 234 yX13_back ∈ AL := AL_in (tb7 (List.mem_of_getElem? (i := 199) rfl)) rfl
theorem wl_RX13_238 : Cond.methodLink RX13 238 yX13_toldWeights ∈ AL := AL_in (tb7 (List.mem_of_getElem? (i := 172) rfl)) rfl
theorem wl_RX13_242 : Cond.methodLink RX13 242 yX13_codeOf ∈ AL := AL_in (tb7 (List.mem_of_getElem? (i := 203) rfl)) rfl
theorem wl_RX13_256 : Cond.methodLink RX13 256 yX13_content ∈ AL := AL_in (tb7 (List.mem_of_getElem? (i := 160) rfl)) rfl
theorem wl_RX13_259 : Cond.methodLink RX13 259 yX13_tabled ∈ AL := AL_in (tb7 (List.mem_of_getElem? (i := 164) rfl)) rfl
theorem wl_RX13_263 : Cond.methodLink RX13 263 yX13_fails ∈ AL := AL_in (tb7 (List.mem_of_getElem? (i := 213) rfl)) rfl
theorem wl_RX13_266 : Cond.methodLink RX13 266 yX13_copyTable ∈ AL := AL_in (tb7 (List.mem_of_getElem? (i := 217) rfl)) rfl
theorem wl_RX13_270 : Cond.methodLink RX13 270 yX13_copyCode ∈ AL := AL_in (tb7 (List.mem_of_getElem? (i := 221) rfl)) rfl
theorem wl_RX13_276 : Cond.methodLink RX13 276 yX13_code ∈ AL := AL_in (tb7 (List.mem_of_getElem? (i := 168) rfl)) rfl
theorem wl_RX13_280 : Cond.methodLink RX13 280 yX13_mostLog ∈ AL := AL_in (tb7 (List.mem_of_getElem? (i := 210) rfl)) rfl
theorem wl_RX13_292 : Cond.methodLink RX13 292 yX13_frame ∈ AL := AL_in (tb7 (List.mem_of_getElem? (i := 229) rfl)) rfl
theorem wl_RX13_296 : Cond.methodLink RX13 296 yX13_wants ∈ AL := AL_in (tb7 (List.mem_of_getElem? (i := 233) rfl)) rfl
theorem wl_RX13_306 : Cond.methodLink RX13 306 yX13_head ∈ AL := AL_in (tb8 (List.mem_of_getElem? (i := 0) rfl)) rfl
theorem wl_RX13_315 : Cond.methodLink RX13 315 yX13_sized ∈ AL := AL_in (tb8 (List.mem_of_getElem? (i := 5) rfl)) rfl
theorem wl_RX13_327 : Cond.methodLink RX13 327 yX13_begin ∈ AL := AL_in (tb8 (List.mem_of_getElem? (i := 12) rfl)) rfl
theorem wl_RX13_330 : Cond.methodLink RX13 330 yX13_blockAt ∈ AL := AL_in (tb8 (List.mem_of_getElem? (i := 18) rfl)) rfl
theorem wl_RX13_347 : Cond.methodLink RX13 347 yX13_packed ∈ AL := AL_in (tb8 (List.mem_of_getElem? (i := 22) rfl)) rfl
theorem wl_RX13_350 : Cond.methodLink RX13 350 yX13_lettersFrom ∈ AL := AL_in (tb8 (List.mem_of_getElem? (i := 26) rfl)) rfl
theorem wl_RX13_356 : Cond.methodLink RX13 356 yX13_sections ∈ AL := AL_in (tb8 (List.mem_of_getElem? (i := 38) rfl)) rfl
theorem wl_RX13_359 : Cond.methodLink RX13 359 yX13_streams ∈ AL := AL_in (tb8 (List.mem_of_getElem? (i := 30) rfl)) rfl
theorem wl_RX13_363 : Cond.methodLink RX13 363 yX13_stream ∈ AL := AL_in (tb8 (List.mem_of_getElem? (i := 34) rfl)) rfl
theorem wl_RX13_367 : Cond.methodLink RX13 367 yX13_defaults ∈ AL := AL_in (tb8 (List.mem_of_getElem? (i := 46) rfl)) rfl
theorem wl_RX13_373 : Cond.methodLink RX13 373 yX13_alone ∈ AL := AL_in (tb8 (List.mem_of_getElem? (i := 50) rfl)) rfl
theorem wl_RX13_379 : Cond.methodLink RX13 379 yX13_toldTable ∈ AL := AL_in (tb8 (List.mem_of_getElem? (i := 42) rfl)) rfl
theorem wl_RX13_382 : Cond.methodLink RX13 382 yX13_all ∈ AL := AL_in (tb8 (List.mem_of_getElem? (i := 54) rfl)) rfl
theorem wl_RX13_386 : Cond.methodLink RX13 386 yX13_copyBase ∈ AL := AL_in (tb8 (List.mem_of_getElem? (i := 58) rfl)) rfl
theorem wl_RX13_389 : Cond.methodLink RX13 389 yX13_copyBits ∈ AL := AL_in (tb8 (List.mem_of_getElem? (i := 61) rfl)) rfl
theorem wl_RX13_392 : Cond.methodLink RX13 392 yX13_letterBase ∈ AL := AL_in (tb8 (List.mem_of_getElem? (i := 64) rfl)) rfl
theorem wl_RX13_395 : Cond.methodLink RX13 395 yX13_letterBits ∈ AL := AL_in (tb8 (List.mem_of_getElem? (i := 67) rfl)) rfl
theorem wl_RX13_398 : Cond.methodLink RX13 398 yX13_sequence ∈ AL := AL_in (tb8 (List.mem_of_getElem? (i := 70) rfl)) rfl
theorem wl_RX13_404 : Cond.methodLink RX13 404 yX13_meant ∈ AL := AL_in (tb8 (List.mem_of_getElem? (i := 74) rfl)) rfl
theorem wl_RX13_408 : Cond.methodLink RX13 408 yX13_offsetOf ∈ AL := AL_in (tb8 (List.mem_of_getElem? (i := 78) rfl)) rfl
theorem wl_RX13_418 : Cond.methodLink RX13 418 yX13_say ∈ AL := AL_in (tb8 (List.mem_of_getElem? (i := 103) rfl)) rfl
theorem wl_RX13_427 : Cond.methodLink RX13 427 yX13_sayBlock ∈ AL := AL_in (tb8 (List.mem_of_getElem? (i := 107) rfl)) rfl
theorem wl_RX13_430 : Cond.methodLink RX13 430 yX13_areSame ∈ AL := AL_in (tb8 (List.mem_of_getElem? (i := 111) rfl)) rfl
theorem wl_RX13_434 : Cond.methodLink RX13 434 yX13_findActs ∈ AL := AL_in (tb8 (List.mem_of_getElem? (i := 115) rfl)) rfl
theorem wl_RX13_437 : Cond.methodLink RX13 437 yX13_sayLetters ∈ AL := AL_in (tb8 (List.mem_of_getElem? (i := 123) rfl)) rfl
theorem wl_RX13_440 : Cond.methodLink RX13 440 yX13_saySequences ∈ AL := AL_in (tb8 (List.mem_of_getElem? (i := 164) rfl)) rfl
theorem wl_RX13_449 : Cond.methodLink RX13 449 yX13_valueOf ∈ AL := AL_in (tb8 (List.mem_of_getElem? (i := 119) rfl)) rfl
theorem wl_RX13_453 : Cond.methodLink RX13 453 yX13_sayHead ∈ AL := AL_in (tb8 (List.mem_of_getElem? (i := 127) rfl)) rfl
theorem wl_RX13_456 : Cond.methodLink RX13 456 yX13_areCoded ∈ AL := AL_in (tb8 (List.mem_of_getElem? (i := 131) rfl)) rfl
theorem wl_RX13_459 : Cond.methodLink RX13 459 yX13_sayCode ∈ AL := AL_in (tb8 (List.mem_of_getElem? (i := 135) rfl)) rfl
theorem wl_RX13_462 : Cond.methodLink RX13 462 yX13_sayStreams ∈ AL := AL_in (tb8 (List.mem_of_getElem? (i := 148) rfl)) rfl
theorem wl_RX13_467 : Cond.methodLink RX13 467 yX13_least ∈ AL := AL_in (tb8 (List.mem_of_getElem? (i := 143) rfl)) rfl
theorem wl_RX13_470 : Cond.methodLink RX13 470 yX13_depths ∈ AL := AL_in (tb8 (List.mem_of_getElem? (i := 139) rfl)) rfl
theorem wl_RX13_473 : Cond.methodLink RX13 473 yX13_digit ∈ AL := AL_in (tb8 (List.mem_of_getElem? (i := 156) rfl)) rfl
theorem wl_RX13_476 : Cond.methodLink RX13 476 yX13_sayDigits ∈ AL := AL_in (tb8 (List.mem_of_getElem? (i := 160) rfl)) rfl
theorem wl_RX13_479 : Cond.methodLink RX13 479 yX13_stream_ ∈ AL := AL_in (tb8 (List.mem_of_getElem? (i := 152) rfl)) rfl
theorem wl_RX13_481 : Cond.methodLink RX13 481 yX13_letterSymbol ∈ AL := AL_in (tb8 (List.mem_of_getElem? (i := 168) rfl)) rfl
theorem wl_RX13_484 : Cond.methodLink RX13 484 yX13_logLong ∈ AL := AL_in (tb8 (List.mem_of_getElem? (i := 171) rfl)) rfl
theorem wl_RX13_488 : Cond.methodLink RX13 488 yX13_copySymbol ∈ AL := AL_in (tb8 (List.mem_of_getElem? (i := 174) rfl)) rfl
theorem wl_RX13_491 : Cond.methodLink RX13 491 yX13_sayTable ∈ AL := AL_in (tb8 (List.mem_of_getElem? (i := 177) rfl)) rfl
theorem wl_RX13_494 : Cond.methodLink RX13 494 yX13_states ∈ AL := AL_in (tb8 (List.mem_of_getElem? (i := 189) rfl)) rfl
theorem wl_RX13_497 : Cond.methodLink RX13 497 yX13_goOn ∈ AL := AL_in (tb8 (List.mem_of_getElem? (i := 193) rfl)) rfl
theorem wl_RX13_500 : Cond.methodLink RX13 500 yX13_sayCounts ∈ AL := AL_in (tb8 (List.mem_of_getElem? (i := 181) rfl)) rfl
theorem wl_RX13_509 : Cond.methodLink RX13 509 yX13_bit ∈ AL := AL_in (tb8 (List.mem_of_getElem? (i := 185) rfl)) rfl
theorem wl_RX1_28 : Cond.methodLink RX1 28 yJ7_fill_53178 ∈ AL := AL_in (tb4 (List.mem_of_getElem? (i := 48) rfl)) rfl
theorem wl_RX1_3 : Cond.methodLink RX1 3 objectInit ∈ AL := AL_in (tb1 (List.mem_of_getElem? (i := 197) rfl)) rfl
theorem wl_RX1_40 : Cond.methodLink RX1 40 Lib.Math.min.name ∈ AL := AL_in (tb4 (List.mem_of_getElem? (i := 51) rfl)) rfl
theorem wl_RX1_46 : Cond.methodLink RX1 46 yX8_get ∈ AL := AL_in (tb5 (List.mem_of_getElem? (i := 215) rfl)) rfl
theorem wl_RX2_23 : Cond.methodLink RX2 23 yX1_init ∈ AL := AL_in (tb1 (List.mem_of_getElem? (i := 194) rfl)) rfl
theorem wl_RX2_3 : Cond.methodLink RX2 3 objectInit ∈ AL := AL_in (tb1 (List.mem_of_getElem? (i := 189) rfl)) rfl
theorem wl_RX2_30 : Cond.methodLink RX2 30 yX8_init ∈ AL := AL_in (tb1 (List.mem_of_getElem? (i := 217) rfl)) rfl
theorem wl_RX2_37 : Cond.methodLink RX2 37 yX10_init ∈ AL := AL_in (tb1 (List.mem_of_getElem? (i := 218) rfl)) rfl
theorem wl_RX2_52 : Cond.methodLink RX2 52 yX8_number ∈ AL := AL_in (tb3 (List.mem_of_getElem? (i := 220) rfl)) rfl
theorem wl_RX2_61 : Cond.methodLink RX2 61 yX11_read ∈ AL := AL_in (tb3 (List.mem_of_getElem? (i := 225) rfl)) rfl
theorem wl_RX2_67 : Cond.methodLink RX2 67 yX1_build ∈ AL := AL_in (tb4 (List.mem_of_getElem? (i := 44) rfl)) rfl
theorem wl_RX2_71 : Cond.methodLink RX2 71 yX2_readTable ∈ AL := AL_in (tb4 (List.mem_of_getElem? (i := 52) rfl)) rfl
theorem wl_RX2_74 : Cond.methodLink RX2 74 yX2_readRemembered ∈ AL := AL_in (tb4 (List.mem_of_getElem? (i := 61) rfl)) rfl
theorem wl_RX2_84 : Cond.methodLink RX2 84 yX10_read ∈ AL := AL_in (tb4 (List.mem_of_getElem? (i := 60) rfl)) rfl
theorem wl_RX2_87 : Cond.methodLink RX2 87 yX8_addFrom ∈ AL := AL_in (tb4 (List.mem_of_getElem? (i := 69) rfl)) rfl
theorem wl_RX3_11 : Cond.methodLink RX3 11 yX8_init ∈ AL := AL_in (tb3 (List.mem_of_getElem? (i := 23) rfl)) rfl
theorem wl_RX3_3 : Cond.methodLink RX3 3 objectInit ∈ AL := AL_in (tb3 (List.mem_of_getElem? (i := 21) rfl)) rfl
theorem wl_RX3_43 : Cond.methodLink RX3 43 yX8_addFrom ∈ AL := AL_in (tb5 (List.mem_of_getElem? (i := 141) rfl)) rfl
theorem wl_RX3_50 : Cond.methodLink RX3 50 yJ7_fill_53178 ∈ AL := AL_in (tb5 (List.mem_of_getElem? (i := 142) rfl)) rfl
theorem wl_RX3_62 : Cond.methodLink RX3 62 yX3_findBest ∈ AL := AL_in (tb5 (List.mem_of_getElem? (i := 156) rfl)) rfl
theorem wl_RX3_69 : Cond.methodLink RX3 69 yX8_get ∈ AL := AL_in (tb5 (List.mem_of_getElem? (i := 168) rfl)) rfl
theorem wl_RX3_73 : Cond.methodLink RX3 73 yX8_add ∈ AL := AL_in (tb5 (List.mem_of_getElem? (i := 174) rfl)) rfl
theorem wl_RX3_79 : Cond.methodLink RX3 79 yX3_linkUpTo ∈ AL := AL_in (tb5 (List.mem_of_getElem? (i := 160) rfl)) rfl
theorem wl_RX3_82 : Cond.methodLink RX3 82 yX3_chainOf ∈ AL := AL_in (tb5 (List.mem_of_getElem? (i := 164) rfl)) rfl
theorem wl_RX3_85 : Cond.methodLink RX3 85 yX3_sameFrom ∈ AL := AL_in (tb5 (List.mem_of_getElem? (i := 170) rfl)) rfl
theorem wl_RX4_100 : Cond.methodLink RX4 100 yX11_read ∈ AL := AL_in (tb4 (List.mem_of_getElem? (i := 178) rfl)) rfl
theorem wl_RX4_106 : Cond.methodLink RX4 106 yX1_build ∈ AL := AL_in (tb4 (List.mem_of_getElem? (i := 179) rfl)) rfl
theorem wl_RX4_11 : Cond.methodLink RX4 11 yX8_init ∈ AL := AL_in (tb2 (List.mem_of_getElem? (i := 64) rfl)) rfl
theorem wl_RX4_111 : Cond.methodLink RX4 111 yX8_addFrom ∈ AL := AL_in (tb4 (List.mem_of_getElem? (i := 184) rfl)) rfl
theorem wl_RX4_115 : Cond.methodLink RX4 115 yX8_addSame ∈ AL := AL_in (tb4 (List.mem_of_getElem? (i := 185) rfl)) rfl
theorem wl_RX4_119 : Cond.methodLink RX4 119 yX4_readStream ∈ AL := AL_in (tb4 (List.mem_of_getElem? (i := 189) rfl)) rfl
theorem wl_RX4_123 : Cond.methodLink RX4 123 yX4_readFour ∈ AL := AL_in (tb4 (List.mem_of_getElem? (i := 204) rfl)) rfl
theorem wl_RX4_131 : Cond.methodLink RX4 131 yX0_begin ∈ AL := AL_in (tb4 (List.mem_of_getElem? (i := 193) rfl)) rfl
theorem wl_RX4_138 : Cond.methodLink RX4 138 yX0_look ∈ AL := AL_in (tb4 (List.mem_of_getElem? (i := 194) rfl)) rfl
theorem wl_RX4_141 : Cond.methodLink RX4 141 yX1_symbolOf ∈ AL := AL_in (tb4 (List.mem_of_getElem? (i := 199) rfl)) rfl
theorem wl_RX4_150 : Cond.methodLink RX4 150 yX8_add ∈ AL := AL_in (tb4 (List.mem_of_getElem? (i := 203) rfl)) rfl
theorem wl_RX4_22 : Cond.methodLink RX4 22 yX1_init ∈ AL := AL_in (tb2 (List.mem_of_getElem? (i := 66) rfl)) rfl
theorem wl_RX4_29 : Cond.methodLink RX4 29 yX0_init ∈ AL := AL_in (tb2 (List.mem_of_getElem? (i := 68) rfl)) rfl
theorem wl_RX4_3 : Cond.methodLink RX4 3 objectInit ∈ AL := AL_in (tb2 (List.mem_of_getElem? (i := 62) rfl)) rfl
theorem wl_RX4_61 : Cond.methodLink RX4 61 yX8_get ∈ AL := AL_in (tb4 (List.mem_of_getElem? (i := 166) rfl)) rfl
theorem wl_RX4_71 : Cond.methodLink RX4 71 yX4_coded ∈ AL := AL_in (tb4 (List.mem_of_getElem? (i := 167) rfl)) rfl
theorem wl_RX4_75 : Cond.methodLink RX4 75 Lib.Math.max.name ∈ AL := AL_in (tb4 (List.mem_of_getElem? (i := 171) rfl)) rfl
theorem wl_RX4_81 : Cond.methodLink RX4 81 yX7_fail ∈ AL := AL_in (tb4 (List.mem_of_getElem? (i := 172) rfl)) rfl
theorem wl_RX4_87 : Cond.methodLink RX4 87 yX8_number ∈ AL := AL_in (tb4 (List.mem_of_getElem? (i := 173) rfl)) rfl
theorem wl_RX5_105 : Cond.methodLink RX5 105 yX5_there ∈ AL := AL_in (tb4 (List.mem_of_getElem? (i := 92) rfl)) rfl
theorem wl_RX5_109 : Cond.methodLink RX5 109 yX5_lacks ∈ AL := AL_in (tb4 (List.mem_of_getElem? (i := 96) rfl)) rfl
theorem wl_RX5_11 : Cond.methodLink RX5 11 yX8_init ∈ AL := AL_in (tb2 (List.mem_of_getElem? (i := 56) rfl)) rfl
theorem wl_RX5_112 : Cond.methodLink RX5 112 yX8_number ∈ AL := AL_in (tb4 (List.mem_of_getElem? (i := 104) rfl)) rfl
theorem wl_RX5_122 : Cond.methodLink RX5 122 yX7_fail ∈ AL := AL_in (tb4 (List.mem_of_getElem? (i := 100) rfl)) rfl
theorem wl_RX5_126 : Cond.methodLink RX5 126 yX5_passOver ∈ AL := AL_in (tb4 (List.mem_of_getElem? (i := 108) rfl)) rfl
theorem wl_RX5_129 : Cond.methodLink RX5 129 yX5_readHead ∈ AL := AL_in (tb4 (List.mem_of_getElem? (i := 112) rfl)) rfl
theorem wl_RX5_136 : Cond.methodLink RX5 136 yX8_get ∈ AL := AL_in (tb4 (List.mem_of_getElem? (i := 116) rfl)) rfl
theorem wl_RX5_143 : Cond.methodLink RX5 143 yX5_readSpan ∈ AL := AL_in (tb4 (List.mem_of_getElem? (i := 117) rfl)) rfl
theorem wl_RX5_146 : Cond.methodLink RX5 146 yX5_readNumber ∈ AL := AL_in (tb4 (List.mem_of_getElem? (i := 122) rfl)) rfl
theorem wl_RX5_150 : Cond.methodLink RX5 150 yX5_readSize ∈ AL := AL_in (tb4 (List.mem_of_getElem? (i := 126) rfl)) rfl
theorem wl_RX5_154 : Cond.methodLink RX5 154 yX5_beginFrame ∈ AL := AL_in (tb4 (List.mem_of_getElem? (i := 130) rfl)) rfl
theorem wl_RX5_180 : Cond.methodLink RX5 180 yX4_beginFrame ∈ AL := AL_in (tb4 (List.mem_of_getElem? (i := 135) rfl)) rfl
theorem wl_RX5_183 : Cond.methodLink RX5 183 yX9_beginFrame ∈ AL := AL_in (tb4 (List.mem_of_getElem? (i := 139) rfl)) rfl
theorem wl_RX5_197 : Cond.methodLink RX5 197 yX8_addFrom ∈ AL := AL_in (tb5 (List.mem_of_getElem? (i := 73) rfl)) rfl
theorem wl_RX5_201 : Cond.methodLink RX5 201 yX8_addSame ∈ AL := AL_in (tb5 (List.mem_of_getElem? (i := 74) rfl)) rfl
theorem wl_RX5_205 : Cond.methodLink RX5 205 yX4_readHead ∈ AL := AL_in (tb4 (List.mem_of_getElem? (i := 162) rfl)) rfl
theorem wl_RX5_208 : Cond.methodLink RX5 208 yX4_readCode ∈ AL := AL_in (tb4 (List.mem_of_getElem? (i := 174) rfl)) rfl
theorem wl_RX5_212 : Cond.methodLink RX5 212 yX4_readBody ∈ AL := AL_in (tb4 (List.mem_of_getElem? (i := 180) rfl)) rfl
theorem wl_RX5_218 : Cond.methodLink RX5 218 yX9_readHead ∈ AL := AL_in (tb4 (List.mem_of_getElem? (i := 208) rfl)) rfl
theorem wl_RX5_221 : Cond.methodLink RX5 221 yX9_none ∈ AL := AL_in (tb4 (List.mem_of_getElem? (i := 219) rfl)) rfl
theorem wl_RX5_224 : Cond.methodLink RX5 224 yX9_readTable ∈ AL := AL_in (tb4 (List.mem_of_getElem? (i := 223) rfl)) rfl
theorem wl_RX5_228 : Cond.methodLink RX5 228 yX9_run ∈ AL := AL_in (tb4 (List.mem_of_getElem? (i := 234) rfl)) rfl
theorem wl_RX5_235 : Cond.methodLink RX5 235 yX8_sumFrom ∈ AL := AL_in (tb5 (List.mem_of_getElem? (i := 83) rfl)) rfl
theorem wl_RX5_29 : Cond.methodLink RX5 29 yX4_init ∈ AL := AL_in (tb2 (List.mem_of_getElem? (i := 59) rfl)) rfl
theorem wl_RX5_3 : Cond.methodLink RX5 3 objectInit ∈ AL := AL_in (tb2 (List.mem_of_getElem? (i := 54) rfl)) rfl
theorem wl_RX5_38 : Cond.methodLink RX5 38 yX9_init ∈ AL := AL_in (tb2 (List.mem_of_getElem? (i := 116) rfl)) rfl
theorem wl_RX5_60 : Cond.methodLink RX5 60 yX7_clear ∈ AL := AL_in (tb4 (List.mem_of_getElem? (i := 78) rfl)) rfl
theorem wl_RX5_65 : Cond.methodLink RX5 65 yX5_forget ∈ AL := AL_in (tb4 (List.mem_of_getElem? (i := 83) rfl)) rfl
theorem wl_RX5_68 : Cond.methodLink RX5 68 yX5_readMark ∈ AL := AL_in (tb4 (List.mem_of_getElem? (i := 87) rfl)) rfl
theorem wl_RX5_76 : Cond.methodLink RX5 76 yX5_readBlockHead ∈ AL := AL_in (tb4 (List.mem_of_getElem? (i := 153) rfl)) rfl
theorem wl_RX5_82 : Cond.methodLink RX5 82 yX5_readPacked ∈ AL := AL_in (tb4 (List.mem_of_getElem? (i := 158) rfl)) rfl
theorem wl_RX5_85 : Cond.methodLink RX5 85 yX5_readPlain ∈ AL := AL_in (tb5 (List.mem_of_getElem? (i := 69) rfl)) rfl
theorem wl_RX5_88 : Cond.methodLink RX5 88 yX5_endBlock ∈ AL := AL_in (tb5 (List.mem_of_getElem? (i := 75) rfl)) rfl
theorem wl_RX5_94 : Cond.methodLink RX5 94 yX5_readEnd ∈ AL := AL_in (tb5 (List.mem_of_getElem? (i := 79) rfl)) rfl
theorem wl_RX6_100 : Cond.methodLink RX6 100 Lib.Math.min.name ∈ AL := AL_in (tb5 (List.mem_of_getElem? (i := 143) rfl)) rfl
theorem wl_RX6_106 : Cond.methodLink RX6 106 yX8_same ∈ AL := AL_in (tb5 (List.mem_of_getElem? (i := 144) rfl)) rfl
theorem wl_RX6_11 : Cond.methodLink RX6 11 yX3_init ∈ AL := AL_in (tb3 (List.mem_of_getElem? (i := 18) rfl)) rfl
theorem wl_RX6_110 : Cond.methodLink RX6 110 yX6_writeBody ∈ AL := AL_in (tb5 (List.mem_of_getElem? (i := 148) rfl)) rfl
theorem wl_RX6_113 : Cond.methodLink RX6 113 yX6_writeBlock ∈ AL := AL_in (tb6 (List.mem_of_getElem? (i := 60) rfl)) rfl
theorem wl_RX6_117 : Cond.methodLink RX6 117 yX8_sumFrom ∈ AL := AL_in (tb6 (List.mem_of_getElem? (i := 64) rfl)) rfl
theorem wl_RX6_121 : Cond.methodLink RX6 121 yX8_addNumber ∈ AL := AL_in (tb5 (List.mem_of_getElem? (i := 129) rfl)) rfl
theorem wl_RX6_127 : Cond.methodLink RX6 127 yX8_add ∈ AL := AL_in (tb5 (List.mem_of_getElem? (i := 134) rfl)) rfl
theorem wl_RX6_134 : Cond.methodLink RX6 134 yX8_addFrom ∈ AL := AL_in (tb5 (List.mem_of_getElem? (i := 233) rfl)) rfl
theorem wl_RX6_138 : Cond.methodLink RX6 138 yX3_find ∈ AL := AL_in (tb5 (List.mem_of_getElem? (i := 152) rfl)) rfl
theorem wl_RX6_141 : Cond.methodLink RX6 141 arraycopyName ∈ AL := AL_in (tb5 (List.mem_of_getElem? (i := 175) rfl)) rfl
theorem wl_RX6_156 : Cond.methodLink RX6 156 yX6_valueOf ∈ AL := AL_in (tb5 (List.mem_of_getElem? (i := 176) rfl)) rfl
theorem wl_RX6_167 : Cond.methodLink RX6 167 yX6_writeLetters ∈ AL := AL_in (tb5 (List.mem_of_getElem? (i := 183) rfl)) rfl
theorem wl_RX6_170 : Cond.methodLink RX6 170 yX6_writeSequences ∈ AL := AL_in (tb5 (List.mem_of_getElem? (i := 234) rfl)) rfl
theorem wl_RX6_180 : Cond.methodLink RX6 180 yX6_allLow ∈ AL := AL_in (tb5 (List.mem_of_getElem? (i := 187) rfl)) rfl
theorem wl_RX6_184 : Cond.methodLink RX6 184 yX6_writeCoded ∈ AL := AL_in (tb5 (List.mem_of_getElem? (i := 192) rfl)) rfl
theorem wl_RX6_188 : Cond.methodLink RX6 188 yX8_get ∈ AL := AL_in (tb5 (List.mem_of_getElem? (i := 191) rfl)) rfl
theorem wl_RX6_192 : Cond.methodLink RX6 192 yX11_make ∈ AL := AL_in (tb5 (List.mem_of_getElem? (i := 196) rfl)) rfl
theorem wl_RX6_198 : Cond.methodLink RX6 198 yX1_build ∈ AL := AL_in (tb5 (List.mem_of_getElem? (i := 210) rfl)) rfl
theorem wl_RX6_20 : Cond.methodLink RX6 20 yX8_init ∈ AL := AL_in (tb3 (List.mem_of_getElem? (i := 67) rfl)) rfl
theorem wl_RX6_203 : Cond.methodLink RX6 203 yX1_lengthOf ∈ AL := AL_in (tb5 (List.mem_of_getElem? (i := 211) rfl)) rfl
theorem wl_RX6_207 : Cond.methodLink RX6 207 yX6_writeWeights ∈ AL := AL_in (tb5 (List.mem_of_getElem? (i := 216) rfl)) rfl
theorem wl_RX6_210 : Cond.methodLink RX6 210 yX6_writeStream ∈ AL := AL_in (tb5 (List.mem_of_getElem? (i := 220) rfl)) rfl
theorem wl_RX6_221 : Cond.methodLink RX6 221 yX8_addBits ∈ AL := AL_in (tb5 (List.mem_of_getElem? (i := 224) rfl)) rfl
theorem wl_RX6_224 : Cond.methodLink RX6 224 yX8_endBits ∈ AL := AL_in (tb5 (List.mem_of_getElem? (i := 228) rfl)) rfl
theorem wl_RX6_227 : Cond.methodLink RX6 227 yX6_writeTable ∈ AL := AL_in (tb5 (List.mem_of_getElem? (i := 238) rfl)) rfl
theorem wl_RX6_230 : Cond.methodLink RX6 230 yX8_put ∈ AL := AL_in (tb6 (List.mem_of_getElem? (i := 34) rfl)) rfl
theorem wl_RX6_233 : Cond.methodLink RX6 233 yX6_writeStates ∈ AL := AL_in (tb6 (List.mem_of_getElem? (i := 35) rfl)) rfl
theorem wl_RX6_236 : Cond.methodLink RX6 236 yJ7_fill_53178 ∈ AL := AL_in (tb6 (List.mem_of_getElem? (i := 2) rfl)) rfl
theorem wl_RX6_242 : Cond.methodLink RX6 242 yX6_symbolOf ∈ AL := AL_in (tb6 (List.mem_of_getElem? (i := 3) rfl)) rfl
theorem wl_RX6_245 : Cond.methodLink RX6 245 Lib.Math.max.name ∈ AL := AL_in (tb6 (List.mem_of_getElem? (i := 8) rfl)) rfl
theorem wl_RX6_248 : Cond.methodLink RX6 248 yX10_buildOnly ∈ AL := AL_in (tb6 (List.mem_of_getElem? (i := 9) rfl)) rfl
theorem wl_RX6_251 : Cond.methodLink RX6 251 yX10_buildFor ∈ AL := AL_in (tb6 (List.mem_of_getElem? (i := 10) rfl)) rfl
theorem wl_RX6_254 : Cond.methodLink RX6 254 yX10_write ∈ AL := AL_in (tb6 (List.mem_of_getElem? (i := 19) rfl)) rfl
theorem wl_RX6_257 : Cond.methodLink RX6 257 yX10_firstPlace ∈ AL := AL_in (tb6 (List.mem_of_getElem? (i := 39) rfl)) rfl
theorem wl_RX6_260 : Cond.methodLink RX6 260 yX6_goBack ∈ AL := AL_in (tb6 (List.mem_of_getElem? (i := 43) rfl)) rfl
theorem wl_RX6_263 : Cond.methodLink RX6 263 yX6_writeExtra ∈ AL := AL_in (tb6 (List.mem_of_getElem? (i := 55) rfl)) rfl
theorem wl_RX6_272 : Cond.methodLink RX6 272 yX10_placeBefore ∈ AL := AL_in (tb6 (List.mem_of_getElem? (i := 47) rfl)) rfl
theorem wl_RX6_275 : Cond.methodLink RX6 275 yX10_baseAt ∈ AL := AL_in (tb6 (List.mem_of_getElem? (i := 53) rfl)) rfl
theorem wl_RX6_278 : Cond.methodLink RX6 278 yX10_bitsAt ∈ AL := AL_in (tb6 (List.mem_of_getElem? (i := 54) rfl)) rfl
theorem wl_RX6_29 : Cond.methodLink RX6 29 yX1_init ∈ AL := AL_in (tb3 (List.mem_of_getElem? (i := 69) rfl)) rfl
theorem wl_RX6_3 : Cond.methodLink RX6 3 objectInit ∈ AL := AL_in (tb3 (List.mem_of_getElem? (i := 15) rfl)) rfl
theorem wl_RX6_72 : Cond.methodLink RX6 72 yX10_init ∈ AL := AL_in (tb3 (List.mem_of_getElem? (i := 71) rfl)) rfl
theorem wl_RX6_85 : Cond.methodLink RX6 85 yX6_writeHead ∈ AL := AL_in (tb5 (List.mem_of_getElem? (i := 124) rfl)) rfl
theorem wl_RX6_96 : Cond.methodLink RX6 96 yX3_begin ∈ AL := AL_in (tb5 (List.mem_of_getElem? (i := 137) rfl)) rfl
theorem wl_RX7_18 : Cond.methodLink RX7 18 yJ7_fill_53178 ∈ AL := AL_in (tb4 (List.mem_of_getElem? (i := 82) rfl)) rfl
theorem wl_RX7_3 : Cond.methodLink RX7 3 objectInit ∈ AL := AL_in (tb1 (List.mem_of_getElem? (i := 163) rfl)) rfl
theorem wl_RX7_31 : Cond.methodLink RX7 31 arraycopyName ∈ AL := AL_in (tb4 (List.mem_of_getElem? (i := 152) rfl)) rfl
theorem wl_RX8_25 : Cond.methodLink RX8 25 Lib.Math.min.name ∈ AL := AL_in (tb3 (List.mem_of_getElem? (i := 194) rfl)) rfl
theorem wl_RX8_28 : Cond.methodLink RX8 28 yX8_get ∈ AL := AL_in (tb3 (List.mem_of_getElem? (i := 195) rfl)) rfl
theorem wl_RX8_3 : Cond.methodLink RX8 3 objectInit ∈ AL := AL_in (tb1 (List.mem_of_getElem? (i := 31) rfl)) rfl
theorem wl_RX8_32 : Cond.methodLink RX8 32 yX8_add ∈ AL := AL_in (tb5 (List.mem_of_getElem? (i := 133) rfl)) rfl
theorem wl_RX8_43 : Cond.methodLink RX8 43 yX8_addBits ∈ AL := AL_in (tb5 (List.mem_of_getElem? (i := 232) rfl)) rfl
theorem wl_RX8_47 : Cond.methodLink RX8 47 yX8_sumOfLong ∈ AL := AL_in (tb5 (List.mem_of_getElem? (i := 87) rfl)) rfl
theorem wl_RX8_53 : Cond.methodLink RX8 53 yX8_number ∈ AL := AL_in (tb5 (List.mem_of_getElem? (i := 94) rfl)) rfl
theorem wl_RX8_9 : Cond.methodLink RX8 9 Lib.Math.max.name ∈ AL := AL_in (tb1 (List.mem_of_getElem? (i := 32) rfl)) rfl
theorem wl_RX9_101 : Cond.methodLink RX9 101 yX7_noteRemembered ∈ AL := AL_in (tb4 (List.mem_of_getElem? (i := 148) rfl)) rfl
theorem wl_RX9_107 : Cond.methodLink RX9 107 yX8_get ∈ AL := AL_in (tb4 (List.mem_of_getElem? (i := 212) rfl)) rfl
theorem wl_RX9_111 : Cond.methodLink RX9 111 yX9_wrong ∈ AL := AL_in (tb4 (List.mem_of_getElem? (i := 213) rfl)) rfl
theorem wl_RX9_118 : Cond.methodLink RX9 118 yX8_number ∈ AL := AL_in (tb4 (List.mem_of_getElem? (i := 218) rfl)) rfl
theorem wl_RX9_125 : Cond.methodLink RX9 125 yX7_fail ∈ AL := AL_in (tb4 (List.mem_of_getElem? (i := 217) rfl)) rfl
theorem wl_RX9_132 : Cond.methodLink RX9 132 yX10_buildOnly ∈ AL := AL_in (tb4 (List.mem_of_getElem? (i := 228) rfl)) rfl
theorem wl_RX9_138 : Cond.methodLink RX9 138 yX10_read ∈ AL := AL_in (tb4 (List.mem_of_getElem? (i := 233) rfl)) rfl
theorem wl_RX9_148 : Cond.methodLink RX9 148 yX9_none ∈ AL := AL_in (tb4 (List.mem_of_getElem? (i := 238) rfl)) rfl
theorem wl_RX9_152 : Cond.methodLink RX9 152 yX0_begin ∈ AL := AL_in (tb4 (List.mem_of_getElem? (i := 239) rfl)) rfl
theorem wl_RX9_159 : Cond.methodLink RX9 159 yX0_take ∈ AL := AL_in (tb5 (List.mem_of_getElem? (i := 0) rfl)) rfl
theorem wl_RX9_163 : Cond.methodLink RX9 163 yX9_runOne ∈ AL := AL_in (tb5 (List.mem_of_getElem? (i := 1) rfl)) rfl
theorem wl_RX9_172 : Cond.methodLink RX9 172 yX9_putLetters ∈ AL := AL_in (tb5 (List.mem_of_getElem? (i := 35) rfl)) rfl
theorem wl_RX9_175 : Cond.methodLink RX9 175 yX9_tooMany ∈ AL := AL_in (tb5 (List.mem_of_getElem? (i := 57) rfl)) rfl
theorem wl_RX9_181 : Cond.methodLink RX9 181 yX9_symbolOf ∈ AL := AL_in (tb5 (List.mem_of_getElem? (i := 5) rfl)) rfl
theorem wl_RX9_184 : Cond.methodLink RX9 184 yX9_lengthOf ∈ AL := AL_in (tb5 (List.mem_of_getElem? (i := 11) rfl)) rfl
theorem wl_RX9_187 : Cond.methodLink RX9 187 yX9_goOn ∈ AL := AL_in (tb5 (List.mem_of_getElem? (i := 29) rfl)) rfl
theorem wl_RX9_197 : Cond.methodLink RX9 197 yX9_reaches ∈ AL := AL_in (tb5 (List.mem_of_getElem? (i := 47) rfl)) rfl
theorem wl_RX9_201 : Cond.methodLink RX9 201 yX9_putCopy ∈ AL := AL_in (tb5 (List.mem_of_getElem? (i := 51) rfl)) rfl
theorem wl_RX9_213 : Cond.methodLink RX9 213 yX7_note ∈ AL := AL_in (tb5 (List.mem_of_getElem? (i := 65) rfl)) rfl
theorem wl_RX9_217 : Cond.methodLink RX9 217 yX10_symbolAt ∈ AL := AL_in (tb5 (List.mem_of_getElem? (i := 9) rfl)) rfl
theorem wl_RX9_220 : Cond.methodLink RX9 220 Lib.Math.min.name ∈ AL := AL_in (tb5 (List.mem_of_getElem? (i := 10) rfl)) rfl
theorem wl_RX9_229 : Cond.methodLink RX9 229 yX10_baseAt ∈ AL := AL_in (tb5 (List.mem_of_getElem? (i := 33) rfl)) rfl
theorem wl_RX9_232 : Cond.methodLink RX9 232 yX10_bitsAt ∈ AL := AL_in (tb5 (List.mem_of_getElem? (i := 34) rfl)) rfl
theorem wl_RX9_235 : Cond.methodLink RX9 235 yX8_addFrom ∈ AL := AL_in (tb5 (List.mem_of_getElem? (i := 39) rfl)) rfl
theorem wl_RX9_239 : Cond.methodLink RX9 239 Lib.Math.max.name ∈ AL := AL_in (tb5 (List.mem_of_getElem? (i := 55) rfl)) rfl
theorem wl_RX9_242 : Cond.methodLink RX9 242 yX8_add ∈ AL := AL_in (tb5 (List.mem_of_getElem? (i := 56) rfl)) rfl
theorem wl_RX9_3 : Cond.methodLink RX9 3 objectInit ∈ AL := AL_in (tb2 (List.mem_of_getElem? (i := 119) rfl)) rfl
theorem wl_RX9_33 : Cond.methodLink RX9 33 yX0_init ∈ AL := AL_in (tb2 (List.mem_of_getElem? (i := 122) rfl)) rfl
theorem wl_RX9_40 : Cond.methodLink RX9 40 yX8_init ∈ AL := AL_in (tb2 (List.mem_of_getElem? (i := 124) rfl)) rfl
theorem wl_RX9_64 : Cond.methodLink RX9 64 yX10_init ∈ AL := AL_in (tb2 (List.mem_of_getElem? (i := 125) rfl)) rfl
theorem wl_RX9_78 : Cond.methodLink RX9 78 Lib.MathLoose.min_long.x ∈ AL := AL_in (tb4 (List.mem_of_getElem? (i := 144) rfl)) rfl
theorem wm_cabs : Cond.code Lib.Math.abs.name Lib.Math.abs.code 1 (some (FieldType.int)) ∈ AL := AL_in (tb2 (List.mem_of_getElem? (i := 37) rfl)) rfl
theorem wm_cmax : Cond.code Lib.Math.max.name Lib.Math.max.code 2 (some (FieldType.int)) ∈ AL := AL_in (tb1 (List.mem_of_getElem? (i := 34) rfl)) rfl
theorem wm_cmin : Cond.code Lib.Math.min.name Lib.Math.min.code 2 (some (FieldType.int)) ∈ AL := AL_in (tb2 (List.mem_of_getElem? (i := 25) rfl)) rfl
theorem wm_cminL : Cond.code Lib.MathLoose.min_long.x Lib.MathLoose.min_long.code 4 (some (FieldType.long)) ∈ AL := AL_in (tb4 (List.mem_of_getElem? (i := 146) rfl)) rfl
theorem wm_sabs : Cond.static Lib.Math.abs.name ∈ AL := AL_in (tb2 (List.mem_of_getElem? (i := 36) rfl)) rfl
theorem wm_smax : Cond.static Lib.Math.max.name ∈ AL := AL_in (tb1 (List.mem_of_getElem? (i := 33) rfl)) rfl
theorem wm_smin : Cond.static Lib.Math.min.name ∈ AL := AL_in (tb2 (List.mem_of_getElem? (i := 24) rfl)) rfl
theorem wm_sminL : Cond.static Lib.MathLoose.min_long.x ∈ AL := AL_in (tb4 (List.mem_of_getElem? (i := 145) rfl)) rfl
theorem wn_X0_begin : Cond.instanceMethod yX0_begin ∈ AL := AL_in (tb4 (List.mem_of_getElem? (i := 8) rfl)) rfl
theorem wn_X0_bitsFrom : Cond.instanceMethod yX0_bitsFrom ∈ AL := AL_in (tb4 (List.mem_of_getElem? (i := 23) rfl)) rfl
theorem wn_X0_init : Cond.instanceMethod yX0_init ∈ AL := AL_in (tb1 (List.mem_of_getElem? (i := 107) rfl)) rfl
theorem wn_X0_look : Cond.instanceMethod yX0_look ∈ AL := AL_in (tb4 (List.mem_of_getElem? (i := 195) rfl)) rfl
theorem wn_X0_take : Cond.instanceMethod yX0_take ∈ AL := AL_in (tb4 (List.mem_of_getElem? (i := 18) rfl)) rfl
theorem wn_X10_baseAt : Cond.instanceMethod yX10_baseAt ∈ AL := AL_in (tb4 (List.mem_of_getElem? (i := 36) rfl)) rfl
theorem wn_X10_bitsAt : Cond.instanceMethod yX10_bitsAt ∈ AL := AL_in (tb4 (List.mem_of_getElem? (i := 28) rfl)) rfl
theorem wn_X10_build : Cond.instanceMethod yX10_build ∈ AL := AL_in (tb2 (List.mem_of_getElem? (i := 33) rfl)) rfl
theorem wn_X10_buildDefault : Cond.instanceMethod yX10_buildDefault ∈ AL := AL_in (tb2 (List.mem_of_getElem? (i := 14) rfl)) rfl
theorem wn_X10_buildFor : Cond.instanceMethod yX10_buildFor ∈ AL := AL_in (tb6 (List.mem_of_getElem? (i := 11) rfl)) rfl
theorem wn_X10_buildOnly : Cond.instanceMethod yX10_buildOnly ∈ AL := AL_in (tb4 (List.mem_of_getElem? (i := 229) rfl)) rfl
theorem wn_X10_firstPlace : Cond.instanceMethod yX10_firstPlace ∈ AL := AL_in (tb6 (List.mem_of_getElem? (i := 40) rfl)) rfl
theorem wn_X10_init : Cond.instanceMethod yX10_init ∈ AL := AL_in (tb1 (List.mem_of_getElem? (i := 68) rfl)) rfl
theorem wn_X10_mostCounted : Cond.instanceMethod yX10_mostCounted ∈ AL := AL_in (tb6 (List.mem_of_getElem? (i := 17) rfl)) rfl
theorem wn_X10_placeBefore : Cond.instanceMethod yX10_placeBefore ∈ AL := AL_in (tb6 (List.mem_of_getElem? (i := 48) rfl)) rfl
theorem wn_X10_read : Cond.instanceMethod yX10_read ∈ AL := AL_in (tb3 (List.mem_of_getElem? (i := 236) rfl)) rfl
theorem wn_X10_spread : Cond.instanceMethod yX10_spread ∈ AL := AL_in (tb2 (List.mem_of_getElem? (i := 40) rfl)) rfl
theorem wn_X10_symbolAt : Cond.instanceMethod yX10_symbolAt ∈ AL := AL_in (tb2 (List.mem_of_getElem? (i := 43) rfl)) rfl
theorem wn_X10_takeBits : Cond.instanceMethod yX10_takeBits ∈ AL := AL_in (tb4 (List.mem_of_getElem? (i := 1) rfl)) rfl
theorem wn_X10_takeCount : Cond.instanceMethod yX10_takeCount ∈ AL := AL_in (tb4 (List.mem_of_getElem? (i := 5) rfl)) rfl
theorem wn_X10_write : Cond.instanceMethod yX10_write ∈ AL := AL_in (tb6 (List.mem_of_getElem? (i := 20) rfl)) rfl
theorem wn_X10_writeCount : Cond.instanceMethod yX10_writeCount ∈ AL := AL_in (tb6 (List.mem_of_getElem? (i := 26) rfl)) rfl
theorem wn_X10_writeZeros : Cond.instanceMethod yX10_writeZeros ∈ AL := AL_in (tb6 (List.mem_of_getElem? (i := 30) rfl)) rfl
theorem wn_X11_complete : Cond.instanceMethod yX11_complete ∈ AL := AL_in (tb4 (List.mem_of_getElem? (i := 41) rfl)) rfl
theorem wn_X11_endWith : Cond.instanceMethod yX11_endWith ∈ AL := AL_in (tb4 (List.mem_of_getElem? (i := 33) rfl)) rfl
theorem wn_X11_init : Cond.instanceMethod yX11_init ∈ AL := AL_in (tb1 (List.mem_of_getElem? (i := 62) rfl)) rfl
theorem wn_X11_join : Cond.instanceMethod yX11_join ∈ AL := AL_in (tb5 (List.mem_of_getElem? (i := 203) rfl)) rfl
theorem wn_X11_least : Cond.instanceMethod yX11_least ∈ AL := AL_in (tb5 (List.mem_of_getElem? (i := 207) rfl)) rfl
theorem wn_X11_make : Cond.instanceMethod yX11_make ∈ AL := AL_in (tb5 (List.mem_of_getElem? (i := 197) rfl)) rfl
theorem wn_X11_read : Cond.instanceMethod yX11_read ∈ AL := AL_in (tb3 (List.mem_of_getElem? (i := 226) rfl)) rfl
theorem wn_X11_readHalves : Cond.instanceMethod yX11_readHalves ∈ AL := AL_in (tb3 (List.mem_of_getElem? (i := 232) rfl)) rfl
theorem wn_X11_readInTurn : Cond.instanceMethod yX11_readInTurn ∈ AL := AL_in (tb4 (List.mem_of_getElem? (i := 15) rfl)) rfl
theorem wn_X12_again : Cond.instanceMethod yX12_again ∈ AL := AL_in (tb3 (List.mem_of_getElem? (i := 187) rfl)) rfl
theorem wn_X12_bits : Cond.instanceMethod yX12_bits ∈ AL := AL_in (tb6 (List.mem_of_getElem? (i := 90) rfl)) rfl
theorem wn_X12_cut : Cond.instanceMethod yX12_cut ∈ AL := AL_in (tb3 (List.mem_of_getElem? (i := 183) rfl)) rfl
theorem wn_X12_differ : Cond.instanceMethod yX12_differ ∈ AL := AL_in (tb3 (List.mem_of_getElem? (i := 201) rfl)) rfl
theorem wn_X12_feed : Cond.instanceMethod yX12_feed ∈ AL := AL_in (tb3 (List.mem_of_getElem? (i := 153) rfl)) rfl
theorem wn_X12_fill : Cond.instanceMethod yX12_fill ∈ AL := AL_in (tb3 (List.mem_of_getElem? (i := 161) rfl)) rfl
theorem wn_X12_init : Cond.instanceMethod yX12_init ∈ AL := AL_in (tb1 (List.mem_of_getElem? (i := 21) rfl)) rfl
theorem wn_X12_keep : Cond.instanceMethod yX12_keep ∈ AL := AL_in (tb3 (List.mem_of_getElem? (i := 206) rfl)) rfl
theorem wn_X12_open : Cond.instanceMethod yX12_open ∈ AL := AL_in (tb4 (List.mem_of_getElem? (i := 71) rfl)) rfl
theorem wn_X12_out : Cond.instanceMethod yX12_out ∈ AL := AL_in (tb6 (List.mem_of_getElem? (i := 66) rfl)) rfl
theorem wn_X12_pack : Cond.instanceMethod yX12_pack ∈ AL := AL_in (tb5 (List.mem_of_getElem? (i := 117) rfl)) rfl
theorem wn_X12_place : Cond.instanceMethod yX12_place ∈ AL := AL_in (tb5 (List.mem_of_getElem? (i := 113) rfl)) rfl
theorem wn_X12_sequence : Cond.instanceMethod yX12_sequence ∈ AL := AL_in (tb6 (List.mem_of_getElem? (i := 79) rfl)) rfl
theorem wn_X12_set : Cond.instanceMethod yX12_set ∈ AL := AL_in (tb3 (List.mem_of_getElem? (i := 171) rfl)) rfl
theorem wn_X12_size : Cond.instanceMethod yX12_size ∈ AL := AL_in (tb3 (List.mem_of_getElem? (i := 167) rfl)) rfl
theorem wn_X12_spareCameOut : Cond.instanceMethod yX12_spareCameOut ∈ AL := AL_in (tb5 (List.mem_of_getElem? (i := 110) rfl)) rfl
theorem wn_X12_sum : Cond.instanceMethod yX12_sum ∈ AL := AL_in (tb6 (List.mem_of_getElem? (i := 70) rfl)) rfl
theorem wn_X12_swap : Cond.instanceMethod yX12_swap ∈ AL := AL_in (tb3 (List.mem_of_getElem? (i := 197) rfl)) rfl
theorem wn_X12_table : Cond.instanceMethod yX12_table ∈ AL := AL_in (tb6 (List.mem_of_getElem? (i := 83) rfl)) rfl
theorem wn_X12_told : Cond.instanceMethod yX12_told ∈ AL := AL_in (tb6 (List.mem_of_getElem? (i := 75) rfl)) rfl
theorem wn_X12_unusedDictionary : Cond.instanceMethod yX12_unusedDictionary ∈ AL := AL_in (tb3 (List.mem_of_getElem? (i := 211) rfl)) rfl
theorem wn_X13_again : Cond.instanceMethod yX13_again ∈ AL := AL_in (tb7 (List.mem_of_getElem? (i := 113) rfl)) rfl
theorem wn_X13_all : Cond.instanceMethod yX13_all ∈ AL := AL_in (tb8 (List.mem_of_getElem? (i := 56) rfl)) rfl
theorem wn_X13_alone : Cond.instanceMethod yX13_alone ∈ AL := AL_in (tb8 (List.mem_of_getElem? (i := 52) rfl)) rfl
theorem wn_X13_areCoded : Cond.instanceMethod yX13_areCoded ∈ AL := AL_in (tb8 (List.mem_of_getElem? (i := 133) rfl)) rfl
theorem wn_X13_areSame : Cond.instanceMethod yX13_areSame ∈ AL := AL_in (tb8 (List.mem_of_getElem? (i := 113) rfl)) rfl
theorem wn_X13_back : Cond.instanceMethod yX13_back ∈ AL := AL_in (tb7 (List.mem_of_getElem? (i := 201) rfl)) rfl
theorem wn_X13_begin : Cond.instanceMethod yX13_begin ∈ AL := AL_in (tb8 (List.mem_of_getElem? (i := 14) rfl)) rfl
theorem wn_X13_bit : Cond.instanceMethod yX13_bit ∈ AL := AL_in (tb8 (List.mem_of_getElem? (i := 187) rfl)) rfl
theorem wn_X13_bits : Cond.instanceMethod yX13_bits ∈ AL := AL_in (tb8 (List.mem_of_getElem? (i := 95) rfl)) rfl
theorem wn_X13_blockAt : Cond.instanceMethod yX13_blockAt ∈ AL := AL_in (tb8 (List.mem_of_getElem? (i := 20) rfl)) rfl
theorem wn_X13_code : Cond.instanceMethod yX13_code ∈ AL := AL_in (tb7 (List.mem_of_getElem? (i := 170) rfl)) rfl
theorem wn_X13_codeOf : Cond.instanceMethod yX13_codeOf ∈ AL := AL_in (tb7 (List.mem_of_getElem? (i := 205) rfl)) rfl
theorem wn_X13_content : Cond.instanceMethod yX13_content ∈ AL := AL_in (tb7 (List.mem_of_getElem? (i := 162) rfl)) rfl
theorem wn_X13_copyCode : Cond.instanceMethod yX13_copyCode ∈ AL := AL_in (tb7 (List.mem_of_getElem? (i := 223) rfl)) rfl
theorem wn_X13_copyTable : Cond.instanceMethod yX13_copyTable ∈ AL := AL_in (tb7 (List.mem_of_getElem? (i := 219) rfl)) rfl
theorem wn_X13_cut : Cond.instanceMethod yX13_cut ∈ AL := AL_in (tb7 (List.mem_of_getElem? (i := 109) rfl)) rfl
theorem wn_X13_defaults : Cond.instanceMethod yX13_defaults ∈ AL := AL_in (tb8 (List.mem_of_getElem? (i := 48) rfl)) rfl
theorem wn_X13_depths : Cond.instanceMethod yX13_depths ∈ AL := AL_in (tb8 (List.mem_of_getElem? (i := 141) rfl)) rfl
theorem wn_X13_differ : Cond.instanceMethod yX13_differ ∈ AL := AL_in (tb7 (List.mem_of_getElem? (i := 121) rfl)) rfl
theorem wn_X13_digit : Cond.instanceMethod yX13_digit ∈ AL := AL_in (tb8 (List.mem_of_getElem? (i := 158) rfl)) rfl
theorem wn_X13_fails : Cond.instanceMethod yX13_fails ∈ AL := AL_in (tb7 (List.mem_of_getElem? (i := 215) rfl)) rfl
theorem wn_X13_feed : Cond.instanceMethod yX13_feed ∈ AL := AL_in (tb7 (List.mem_of_getElem? (i := 91) rfl)) rfl
theorem wn_X13_fill : Cond.instanceMethod yX13_fill ∈ AL := AL_in (tb7 (List.mem_of_getElem? (i := 95) rfl)) rfl
theorem wn_X13_findActs : Cond.instanceMethod yX13_findActs ∈ AL := AL_in (tb8 (List.mem_of_getElem? (i := 117) rfl)) rfl
theorem wn_X13_forward : Cond.instanceMethod yX13_forward ∈ AL := AL_in (tb7 (List.mem_of_getElem? (i := 186) rfl)) rfl
theorem wn_X13_frame : Cond.instanceMethod yX13_frame ∈ AL := AL_in (tb7 (List.mem_of_getElem? (i := 231) rfl)) rfl
theorem wn_X13_goOn : Cond.instanceMethod yX13_goOn ∈ AL := AL_in (tb8 (List.mem_of_getElem? (i := 195) rfl)) rfl
theorem wn_X13_head : Cond.instanceMethod yX13_head ∈ AL := AL_in (tb8 (List.mem_of_getElem? (i := 2) rfl)) rfl
theorem wn_X13_init : Cond.instanceMethod yX13_init ∈ AL := AL_in (tb6 (List.mem_of_getElem? (i := 96) rfl)) rfl
theorem wn_X13_keep : Cond.instanceMethod yX13_keep ∈ AL := AL_in (tb7 (List.mem_of_getElem? (i := 156) rfl)) rfl
theorem wn_X13_least : Cond.instanceMethod yX13_least ∈ AL := AL_in (tb8 (List.mem_of_getElem? (i := 145) rfl)) rfl
theorem wn_X13_lettersFrom : Cond.instanceMethod yX13_lettersFrom ∈ AL := AL_in (tb8 (List.mem_of_getElem? (i := 28) rfl)) rfl
theorem wn_X13_noCounts : Cond.instanceMethod yX13_noCounts ∈ AL := AL_in (tb7 (List.mem_of_getElem? (i := 182) rfl)) rfl
theorem wn_X13_offsetOf : Cond.instanceMethod yX13_offsetOf ∈ AL := AL_in (tb8 (List.mem_of_getElem? (i := 80) rfl)) rfl
theorem wn_X13_open : Cond.instanceMethod yX13_open ∈ AL := AL_in (tb7 (List.mem_of_getElem? (i := 226) rfl)) rfl
theorem wn_X13_out : Cond.instanceMethod yX13_out ∈ AL := AL_in (tb7 (List.mem_of_getElem? (i := 125) rfl)) rfl
theorem wn_X13_pack : Cond.instanceMethod yX13_pack ∈ AL := AL_in (tb8 (List.mem_of_getElem? (i := 99) rfl)) rfl
theorem wn_X13_packed : Cond.instanceMethod yX13_packed ∈ AL := AL_in (tb8 (List.mem_of_getElem? (i := 24) rfl)) rfl
theorem wn_X13_place : Cond.instanceMethod yX13_place ∈ AL := AL_in (tb7 (List.mem_of_getElem? (i := 129) rfl)) rfl
theorem wn_X13_reversed : Cond.instanceMethod yX13_reversed ∈ AL := AL_in (tb7 (List.mem_of_getElem? (i := 197) rfl)) rfl
theorem wn_X13_say : Cond.instanceMethod yX13_say ∈ AL := AL_in (tb8 (List.mem_of_getElem? (i := 105) rfl)) rfl
theorem wn_X13_sayBlock : Cond.instanceMethod yX13_sayBlock ∈ AL := AL_in (tb8 (List.mem_of_getElem? (i := 109) rfl)) rfl
theorem wn_X13_sayCode : Cond.instanceMethod yX13_sayCode ∈ AL := AL_in (tb8 (List.mem_of_getElem? (i := 137) rfl)) rfl
theorem wn_X13_sayCounts : Cond.instanceMethod yX13_sayCounts ∈ AL := AL_in (tb8 (List.mem_of_getElem? (i := 183) rfl)) rfl
theorem wn_X13_sayDigits : Cond.instanceMethod yX13_sayDigits ∈ AL := AL_in (tb8 (List.mem_of_getElem? (i := 162) rfl)) rfl
theorem wn_X13_sayHead : Cond.instanceMethod yX13_sayHead ∈ AL := AL_in (tb8 (List.mem_of_getElem? (i := 129) rfl)) rfl
theorem wn_X13_sayLetters : Cond.instanceMethod yX13_sayLetters ∈ AL := AL_in (tb8 (List.mem_of_getElem? (i := 125) rfl)) rfl
theorem wn_X13_saySequences : Cond.instanceMethod yX13_saySequences ∈ AL := AL_in (tb8 (List.mem_of_getElem? (i := 166) rfl)) rfl
theorem wn_X13_sayStreams : Cond.instanceMethod yX13_sayStreams ∈ AL := AL_in (tb8 (List.mem_of_getElem? (i := 150) rfl)) rfl
theorem wn_X13_sayTable : Cond.instanceMethod yX13_sayTable ∈ AL := AL_in (tb8 (List.mem_of_getElem? (i := 179) rfl)) rfl
theorem wn_X13_sections : Cond.instanceMethod yX13_sections ∈ AL := AL_in (tb8 (List.mem_of_getElem? (i := 40) rfl)) rfl
theorem wn_X13_sequence : Cond.instanceMethod yX13_sequence ∈ AL := AL_in (tb8 (List.mem_of_getElem? (i := 72) rfl)) rfl
theorem wn_X13_sequence_ : Cond.instanceMethod yX13_sequence_ ∈ AL := AL_in (tb8 (List.mem_of_getElem? (i := 87) rfl)) rfl
theorem wn_X13_set : Cond.instanceMethod yX13_set ∈ AL := AL_in (tb7 (List.mem_of_getElem? (i := 105) rfl)) rfl
theorem wn_X13_size : Cond.instanceMethod yX13_size ∈ AL := AL_in (tb7 (List.mem_of_getElem? (i := 101) rfl)) rfl
theorem wn_X13_sized : Cond.instanceMethod yX13_sized ∈ AL := AL_in (tb8 (List.mem_of_getElem? (i := 7) rfl)) rfl
theorem wn_X13_states : Cond.instanceMethod yX13_states ∈ AL := AL_in (tb8 (List.mem_of_getElem? (i := 191) rfl)) rfl
theorem wn_X13_stream : Cond.instanceMethod yX13_stream ∈ AL := AL_in (tb8 (List.mem_of_getElem? (i := 36) rfl)) rfl
theorem wn_X13_stream_ : Cond.instanceMethod yX13_stream_ ∈ AL := AL_in (tb8 (List.mem_of_getElem? (i := 154) rfl)) rfl
theorem wn_X13_streams : Cond.instanceMethod yX13_streams ∈ AL := AL_in (tb8 (List.mem_of_getElem? (i := 32) rfl)) rfl
theorem wn_X13_sum : Cond.instanceMethod yX13_sum ∈ AL := AL_in (tb7 (List.mem_of_getElem? (i := 133) rfl)) rfl
theorem wn_X13_swap : Cond.instanceMethod yX13_swap ∈ AL := AL_in (tb7 (List.mem_of_getElem? (i := 117) rfl)) rfl
theorem wn_X13_table : Cond.instanceMethod yX13_table ∈ AL := AL_in (tb7 (List.mem_of_getElem? (i := 193) rfl)) rfl
theorem wn_X13_table_ : Cond.instanceMethod yX13_table_ ∈ AL := AL_in (tb8 (List.mem_of_getElem? (i := 91) rfl)) rfl
theorem wn_X13_tabled : Cond.instanceMethod yX13_tabled ∈ AL := AL_in (tb7 (List.mem_of_getElem? (i := 166) rfl)) rfl
theorem wn_X13_told : Cond.instanceMethod yX13_told ∈ AL := AL_in (tb8 (List.mem_of_getElem? (i := 83) rfl)) rfl
theorem wn_X13_toldCounts : Cond.instanceMethod yX13_toldCounts ∈ AL := AL_in (tb7 (List.mem_of_getElem? (i := 178) rfl)) rfl
theorem wn_X13_toldTable : Cond.instanceMethod yX13_toldTable ∈ AL := AL_in (tb8 (List.mem_of_getElem? (i := 44) rfl)) rfl
theorem wn_X13_toldWeights : Cond.instanceMethod yX13_toldWeights ∈ AL := AL_in (tb7 (List.mem_of_getElem? (i := 174) rfl)) rfl
theorem wn_X13_valueOf : Cond.instanceMethod yX13_valueOf ∈ AL := AL_in (tb8 (List.mem_of_getElem? (i := 121) rfl)) rfl
theorem wn_X13_wants : Cond.instanceMethod yX13_wants ∈ AL := AL_in (tb7 (List.mem_of_getElem? (i := 235) rfl)) rfl
theorem wn_X1_build : Cond.instanceMethod yX1_build ∈ AL := AL_in (tb4 (List.mem_of_getElem? (i := 45) rfl)) rfl
theorem wn_X1_init : Cond.instanceMethod yX1_init ∈ AL := AL_in (tb1 (List.mem_of_getElem? (i := 195) rfl)) rfl
theorem wn_X1_lengthOf : Cond.instanceMethod yX1_lengthOf ∈ AL := AL_in (tb5 (List.mem_of_getElem? (i := 212) rfl)) rfl
theorem wn_X1_symbolOf : Cond.instanceMethod yX1_symbolOf ∈ AL := AL_in (tb4 (List.mem_of_getElem? (i := 200) rfl)) rfl
theorem wn_X2_init : Cond.instanceMethod yX2_init ∈ AL := AL_in (tb1 (List.mem_of_getElem? (i := 187) rfl)) rfl
theorem wn_X2_read : Cond.instanceMethod yX2_read ∈ AL := AL_in (tb3 (List.mem_of_getElem? (i := 214) rfl)) rfl
theorem wn_X2_readRemembered : Cond.instanceMethod yX2_readRemembered ∈ AL := AL_in (tb4 (List.mem_of_getElem? (i := 63) rfl)) rfl
theorem wn_X2_readTable : Cond.instanceMethod yX2_readTable ∈ AL := AL_in (tb4 (List.mem_of_getElem? (i := 54) rfl)) rfl
theorem wn_X2_takeContent : Cond.instanceMethod yX2_takeContent ∈ AL := AL_in (tb4 (List.mem_of_getElem? (i := 66) rfl)) rfl
theorem wn_X3_begin : Cond.instanceMethod yX3_begin ∈ AL := AL_in (tb5 (List.mem_of_getElem? (i := 138) rfl)) rfl
theorem wn_X3_chainOf : Cond.instanceMethod yX3_chainOf ∈ AL := AL_in (tb5 (List.mem_of_getElem? (i := 166) rfl)) rfl
theorem wn_X3_find : Cond.instanceMethod yX3_find ∈ AL := AL_in (tb5 (List.mem_of_getElem? (i := 153) rfl)) rfl
theorem wn_X3_findBest : Cond.instanceMethod yX3_findBest ∈ AL := AL_in (tb5 (List.mem_of_getElem? (i := 158) rfl)) rfl
theorem wn_X3_init : Cond.instanceMethod yX3_init ∈ AL := AL_in (tb3 (List.mem_of_getElem? (i := 19) rfl)) rfl
theorem wn_X3_linkUpTo : Cond.instanceMethod yX3_linkUpTo ∈ AL := AL_in (tb5 (List.mem_of_getElem? (i := 162) rfl)) rfl
theorem wn_X3_sameFrom : Cond.instanceMethod yX3_sameFrom ∈ AL := AL_in (tb5 (List.mem_of_getElem? (i := 172) rfl)) rfl
theorem wn_X4_beginFrame : Cond.instanceMethod yX4_beginFrame ∈ AL := AL_in (tb4 (List.mem_of_getElem? (i := 136) rfl)) rfl
theorem wn_X4_coded : Cond.instanceMethod yX4_coded ∈ AL := AL_in (tb4 (List.mem_of_getElem? (i := 169) rfl)) rfl
theorem wn_X4_init : Cond.instanceMethod yX4_init ∈ AL := AL_in (tb2 (List.mem_of_getElem? (i := 60) rfl)) rfl
theorem wn_X4_readBody : Cond.instanceMethod yX4_readBody ∈ AL := AL_in (tb4 (List.mem_of_getElem? (i := 181) rfl)) rfl
theorem wn_X4_readCode : Cond.instanceMethod yX4_readCode ∈ AL := AL_in (tb4 (List.mem_of_getElem? (i := 175) rfl)) rfl
theorem wn_X4_readFour : Cond.instanceMethod yX4_readFour ∈ AL := AL_in (tb4 (List.mem_of_getElem? (i := 206) rfl)) rfl
theorem wn_X4_readHead : Cond.instanceMethod yX4_readHead ∈ AL := AL_in (tb4 (List.mem_of_getElem? (i := 163) rfl)) rfl
theorem wn_X4_readStream : Cond.instanceMethod yX4_readStream ∈ AL := AL_in (tb4 (List.mem_of_getElem? (i := 191) rfl)) rfl
theorem wn_X5_beginFrame : Cond.instanceMethod yX5_beginFrame ∈ AL := AL_in (tb4 (List.mem_of_getElem? (i := 132) rfl)) rfl
theorem wn_X5_endBlock : Cond.instanceMethod yX5_endBlock ∈ AL := AL_in (tb5 (List.mem_of_getElem? (i := 77) rfl)) rfl
theorem wn_X5_forget : Cond.instanceMethod yX5_forget ∈ AL := AL_in (tb4 (List.mem_of_getElem? (i := 85) rfl)) rfl
theorem wn_X5_init : Cond.instanceMethod yX5_init ∈ AL := AL_in (tb2 (List.mem_of_getElem? (i := 52) rfl)) rfl
theorem wn_X5_lacks : Cond.instanceMethod yX5_lacks ∈ AL := AL_in (tb4 (List.mem_of_getElem? (i := 98) rfl)) rfl
theorem wn_X5_openAll : Cond.instanceMethod yX5_openAll ∈ AL := AL_in (tb4 (List.mem_of_getElem? (i := 75) rfl)) rfl
theorem wn_X5_passOver : Cond.instanceMethod yX5_passOver ∈ AL := AL_in (tb4 (List.mem_of_getElem? (i := 110) rfl)) rfl
theorem wn_X5_readBlockHead : Cond.instanceMethod yX5_readBlockHead ∈ AL := AL_in (tb4 (List.mem_of_getElem? (i := 155) rfl)) rfl
theorem wn_X5_readEnd : Cond.instanceMethod yX5_readEnd ∈ AL := AL_in (tb5 (List.mem_of_getElem? (i := 81) rfl)) rfl
theorem wn_X5_readHead : Cond.instanceMethod yX5_readHead ∈ AL := AL_in (tb4 (List.mem_of_getElem? (i := 114) rfl)) rfl
theorem wn_X5_readMark : Cond.instanceMethod yX5_readMark ∈ AL := AL_in (tb4 (List.mem_of_getElem? (i := 89) rfl)) rfl
theorem wn_X5_readNumber : Cond.instanceMethod yX5_readNumber ∈ AL := AL_in (tb4 (List.mem_of_getElem? (i := 124) rfl)) rfl
theorem wn_X5_readPacked : Cond.instanceMethod yX5_readPacked ∈ AL := AL_in (tb4 (List.mem_of_getElem? (i := 160) rfl)) rfl
theorem wn_X5_readPlain : Cond.instanceMethod yX5_readPlain ∈ AL := AL_in (tb5 (List.mem_of_getElem? (i := 71) rfl)) rfl
theorem wn_X5_readSize : Cond.instanceMethod yX5_readSize ∈ AL := AL_in (tb4 (List.mem_of_getElem? (i := 128) rfl)) rfl
theorem wn_X5_readSpan : Cond.instanceMethod yX5_readSpan ∈ AL := AL_in (tb4 (List.mem_of_getElem? (i := 119) rfl)) rfl
theorem wn_X5_there : Cond.instanceMethod yX5_there ∈ AL := AL_in (tb4 (List.mem_of_getElem? (i := 94) rfl)) rfl
theorem wn_X6_allLow : Cond.instanceMethod yX6_allLow ∈ AL := AL_in (tb5 (List.mem_of_getElem? (i := 189) rfl)) rfl
theorem wn_X6_goBack : Cond.instanceMethod yX6_goBack ∈ AL := AL_in (tb6 (List.mem_of_getElem? (i := 45) rfl)) rfl
theorem wn_X6_init : Cond.instanceMethod yX6_init ∈ AL := AL_in (tb3 (List.mem_of_getElem? (i := 13) rfl)) rfl
theorem wn_X6_packRow : Cond.instanceMethod yX6_packRow ∈ AL := AL_in (tb5 (List.mem_of_getElem? (i := 121) rfl)) rfl
theorem wn_X6_symbolOf : Cond.instanceMethod yX6_symbolOf ∈ AL := AL_in (tb6 (List.mem_of_getElem? (i := 5) rfl)) rfl
theorem wn_X6_valueOf : Cond.instanceMethod yX6_valueOf ∈ AL := AL_in (tb5 (List.mem_of_getElem? (i := 178) rfl)) rfl
theorem wn_X6_writeBlock : Cond.instanceMethod yX6_writeBlock ∈ AL := AL_in (tb6 (List.mem_of_getElem? (i := 62) rfl)) rfl
theorem wn_X6_writeBody : Cond.instanceMethod yX6_writeBody ∈ AL := AL_in (tb5 (List.mem_of_getElem? (i := 150) rfl)) rfl
theorem wn_X6_writeCoded : Cond.instanceMethod yX6_writeCoded ∈ AL := AL_in (tb5 (List.mem_of_getElem? (i := 194) rfl)) rfl
theorem wn_X6_writeExtra : Cond.instanceMethod yX6_writeExtra ∈ AL := AL_in (tb6 (List.mem_of_getElem? (i := 57) rfl)) rfl
theorem wn_X6_writeHead : Cond.instanceMethod yX6_writeHead ∈ AL := AL_in (tb5 (List.mem_of_getElem? (i := 126) rfl)) rfl
theorem wn_X6_writeLetters : Cond.instanceMethod yX6_writeLetters ∈ AL := AL_in (tb5 (List.mem_of_getElem? (i := 185) rfl)) rfl
theorem wn_X6_writeSequences : Cond.instanceMethod yX6_writeSequences ∈ AL := AL_in (tb5 (List.mem_of_getElem? (i := 236) rfl)) rfl
theorem wn_X6_writeStates : Cond.instanceMethod yX6_writeStates ∈ AL := AL_in (tb6 (List.mem_of_getElem? (i := 37) rfl)) rfl
theorem wn_X6_writeStream : Cond.instanceMethod yX6_writeStream ∈ AL := AL_in (tb5 (List.mem_of_getElem? (i := 222) rfl)) rfl
theorem wn_X6_writeTable : Cond.instanceMethod yX6_writeTable ∈ AL := AL_in (tb6 (List.mem_of_getElem? (i := 0) rfl)) rfl
theorem wn_X6_writeWeights : Cond.instanceMethod yX6_writeWeights ∈ AL := AL_in (tb5 (List.mem_of_getElem? (i := 218) rfl)) rfl
theorem wn_X7_clear : Cond.instanceMethod yX7_clear ∈ AL := AL_in (tb4 (List.mem_of_getElem? (i := 79) rfl)) rfl
theorem wn_X7_fail : Cond.instanceMethod yX7_fail ∈ AL := AL_in (tb4 (List.mem_of_getElem? (i := 101) rfl)) rfl
theorem wn_X7_init : Cond.instanceMethod yX7_init ∈ AL := AL_in (tb1 (List.mem_of_getElem? (i := 161) rfl)) rfl
theorem wn_X7_note : Cond.instanceMethod yX7_note ∈ AL := AL_in (tb5 (List.mem_of_getElem? (i := 66) rfl)) rfl
theorem wn_X7_noteRemembered : Cond.instanceMethod yX7_noteRemembered ∈ AL := AL_in (tb4 (List.mem_of_getElem? (i := 149) rfl)) rfl
theorem wn_X8_add : Cond.instanceMethod yX8_add ∈ AL := AL_in (tb3 (List.mem_of_getElem? (i := 157) rfl)) rfl
theorem wn_X8_addBits : Cond.instanceMethod yX8_addBits ∈ AL := AL_in (tb5 (List.mem_of_getElem? (i := 225) rfl)) rfl
theorem wn_X8_addFrom : Cond.instanceMethod yX8_addFrom ∈ AL := AL_in (tb3 (List.mem_of_getElem? (i := 191) rfl)) rfl
theorem wn_X8_addNumber : Cond.instanceMethod yX8_addNumber ∈ AL := AL_in (tb5 (List.mem_of_getElem? (i := 130) rfl)) rfl
theorem wn_X8_addSame : Cond.instanceMethod yX8_addSame ∈ AL := AL_in (tb4 (List.mem_of_getElem? (i := 186) rfl)) rfl
theorem wn_X8_endBits : Cond.instanceMethod yX8_endBits ∈ AL := AL_in (tb5 (List.mem_of_getElem? (i := 229) rfl)) rfl
theorem wn_X8_get : Cond.instanceMethod yX8_get ∈ AL := AL_in (tb3 (List.mem_of_getElem? (i := 175) rfl)) rfl
theorem wn_X8_init : Cond.instanceMethod yX8_init ∈ AL := AL_in (tb1 (List.mem_of_getElem? (i := 29) rfl)) rfl
theorem wn_X8_number : Cond.instanceMethod yX8_number ∈ AL := AL_in (tb3 (List.mem_of_getElem? (i := 221) rfl)) rfl
theorem wn_X8_put : Cond.instanceMethod yX8_put ∈ AL := AL_in (tb3 (List.mem_of_getElem? (i := 179) rfl)) rfl
theorem wn_X8_same : Cond.instanceMethod yX8_same ∈ AL := AL_in (tb5 (List.mem_of_getElem? (i := 145) rfl)) rfl
theorem wn_X8_sumFrom : Cond.instanceMethod yX8_sumFrom ∈ AL := AL_in (tb5 (List.mem_of_getElem? (i := 84) rfl)) rfl
theorem wn_X8_sumOfLong : Cond.instanceMethod yX8_sumOfLong ∈ AL := AL_in (tb5 (List.mem_of_getElem? (i := 89) rfl)) rfl
theorem wn_X9_beginFrame : Cond.instanceMethod yX9_beginFrame ∈ AL := AL_in (tb4 (List.mem_of_getElem? (i := 140) rfl)) rfl
theorem wn_X9_goOn : Cond.instanceMethod yX9_goOn ∈ AL := AL_in (tb5 (List.mem_of_getElem? (i := 31) rfl)) rfl
theorem wn_X9_init : Cond.instanceMethod yX9_init ∈ AL := AL_in (tb2 (List.mem_of_getElem? (i := 117) rfl)) rfl
theorem wn_X9_lengthOf : Cond.instanceMethod yX9_lengthOf ∈ AL := AL_in (tb5 (List.mem_of_getElem? (i := 13) rfl)) rfl
theorem wn_X9_none : Cond.instanceMethod yX9_none ∈ AL := AL_in (tb4 (List.mem_of_getElem? (i := 220) rfl)) rfl
theorem wn_X9_putCopy : Cond.instanceMethod yX9_putCopy ∈ AL := AL_in (tb5 (List.mem_of_getElem? (i := 53) rfl)) rfl
theorem wn_X9_putLetters : Cond.instanceMethod yX9_putLetters ∈ AL := AL_in (tb5 (List.mem_of_getElem? (i := 37) rfl)) rfl
theorem wn_X9_reaches : Cond.instanceMethod yX9_reaches ∈ AL := AL_in (tb5 (List.mem_of_getElem? (i := 49) rfl)) rfl
theorem wn_X9_readHead : Cond.instanceMethod yX9_readHead ∈ AL := AL_in (tb4 (List.mem_of_getElem? (i := 209) rfl)) rfl
theorem wn_X9_readTable : Cond.instanceMethod yX9_readTable ∈ AL := AL_in (tb4 (List.mem_of_getElem? (i := 224) rfl)) rfl
theorem wn_X9_run : Cond.instanceMethod yX9_run ∈ AL := AL_in (tb4 (List.mem_of_getElem? (i := 235) rfl)) rfl
theorem wn_X9_runOne : Cond.instanceMethod yX9_runOne ∈ AL := AL_in (tb5 (List.mem_of_getElem? (i := 3) rfl)) rfl
theorem wn_X9_symbolOf : Cond.instanceMethod yX9_symbolOf ∈ AL := AL_in (tb5 (List.mem_of_getElem? (i := 7) rfl)) rfl
theorem wn_X9_tooMany : Cond.instanceMethod yX9_tooMany ∈ AL := AL_in (tb5 (List.mem_of_getElem? (i := 59) rfl)) rfl
theorem wn_X9_wrong : Cond.instanceMethod yX9_wrong ∈ AL := AL_in (tb4 (List.mem_of_getElem? (i := 215) rfl)) rfl
theorem wo_code : Cond.code objectInit ⟨#[0xb1]⟩ 1 none ∈ AL := AL_in (tb1 (List.mem_of_getElem? (i := 25) rfl)) rfl
theorem wo_cps : Cond.static arraycopyName ∈ AL := AL_in (tb2 (List.mem_of_getElem? (i := 27) rfl)) rfl
theorem wo_inst : Cond.instanceMethod objectInit ∈ AL := AL_in (tb1 (List.mem_of_getElem? (i := 24) rfl)) rfl
theorem wo_native : Cond.native arraycopyName ∈ AL := AL_in (tb2 (List.mem_of_getElem? (i := 28) rfl)) rfl
theorem ws_X0_begin : Cond.selects RX0 yX0_begin yX0_begin ∈ AL := AL_in (tb4 (List.mem_of_getElem? (i := 9) rfl)) rfl
theorem ws_X0_bitsFrom : Cond.selects RX0 yX0_bitsFrom yX0_bitsFrom ∈ AL := wpriv (q := (yX0_bitsFrom, 4)) (show _ ∈ lw_privs_1 ++ (lw_privs_2 ++ (lw_privs_3 ++ (lw_privs_4 ++ (lw_privs_5 ++ (lw_privs_6 ++ (lw_privs_7 ++ (lw_privs_8))))))) from List.mem_append_left _ (List.mem_of_getElem? (i := 7) rfl))
theorem ws_X0_look : Cond.selects RX0 yX0_look yX0_look ∈ AL := AL_in (tb4 (List.mem_of_getElem? (i := 196) rfl)) rfl
theorem ws_X0_take : Cond.selects RX0 yX0_take yX0_take ∈ AL := AL_in (tb4 (List.mem_of_getElem? (i := 19) rfl)) rfl
theorem ws_X10_baseAt : Cond.selects RX10 yX10_baseAt yX10_baseAt ∈ AL := AL_in (tb4 (List.mem_of_getElem? (i := 37) rfl)) rfl
theorem ws_X10_bitsAt : Cond.selects RX10 yX10_bitsAt yX10_bitsAt ∈ AL := AL_in (tb4 (List.mem_of_getElem? (i := 29) rfl)) rfl
theorem ws_X10_build : Cond.selects RX10 yX10_build yX10_build ∈ AL := wpriv (q := (yX10_build, 9)) (show _ ∈ lw_privs_1 ++ (lw_privs_2 ++ (lw_privs_3 ++ (lw_privs_4 ++ (lw_privs_5 ++ (lw_privs_6 ++ (lw_privs_7 ++ (lw_privs_8))))))) from List.mem_append_left _ (List.mem_of_getElem? (i := 0) rfl))
theorem ws_X10_buildDefault : Cond.selects RX10 yX10_buildDefault yX10_buildDefault ∈ AL := AL_in (tb2 (List.mem_of_getElem? (i := 15) rfl)) rfl
theorem ws_X10_buildFor : Cond.selects RX10 yX10_buildFor yX10_buildFor ∈ AL := AL_in (tb6 (List.mem_of_getElem? (i := 12) rfl)) rfl
theorem ws_X10_buildOnly : Cond.selects RX10 yX10_buildOnly yX10_buildOnly ∈ AL := AL_in (tb4 (List.mem_of_getElem? (i := 230) rfl)) rfl
theorem ws_X10_firstPlace : Cond.selects RX10 yX10_firstPlace yX10_firstPlace ∈ AL := AL_in (tb6 (List.mem_of_getElem? (i := 41) rfl)) rfl
theorem ws_X10_mostCounted : Cond.selects RX10 yX10_mostCounted yX10_mostCounted ∈ AL := wpriv (q := (yX10_mostCounted, 9)) (show _ ∈ lw_privs_1 ++ (lw_privs_2 ++ (lw_privs_3 ++ (lw_privs_4 ++ (lw_privs_5 ++ (lw_privs_6 ++ (lw_privs_7 ++ (lw_privs_8))))))) from List.mem_append_right _ (List.mem_append_right _ (List.mem_append_right _ (List.mem_append_left _ (List.mem_of_getElem? (i := 10) rfl)))))
theorem ws_X10_placeBefore : Cond.selects RX10 yX10_placeBefore yX10_placeBefore ∈ AL := AL_in (tb6 (List.mem_of_getElem? (i := 49) rfl)) rfl
theorem ws_X10_read : Cond.selects RX10 yX10_read yX10_read ∈ AL := AL_in (tb3 (List.mem_of_getElem? (i := 237) rfl)) rfl
theorem ws_X10_spread : Cond.selects RX10 yX10_spread yX10_spread ∈ AL := wpriv (q := (yX10_spread, 9)) (show _ ∈ lw_privs_1 ++ (lw_privs_2 ++ (lw_privs_3 ++ (lw_privs_4 ++ (lw_privs_5 ++ (lw_privs_6 ++ (lw_privs_7 ++ (lw_privs_8))))))) from List.mem_append_left _ (List.mem_of_getElem? (i := 1) rfl))
theorem ws_X10_symbolAt : Cond.selects RX10 yX10_symbolAt yX10_symbolAt ∈ AL := AL_in (tb2 (List.mem_of_getElem? (i := 44) rfl)) rfl
theorem ws_X10_takeBits : Cond.selects RX10 yX10_takeBits yX10_takeBits ∈ AL := wpriv (q := (yX10_takeBits, 9)) (show _ ∈ lw_privs_1 ++ (lw_privs_2 ++ (lw_privs_3 ++ (lw_privs_4 ++ (lw_privs_5 ++ (lw_privs_6 ++ (lw_privs_7 ++ (lw_privs_8))))))) from List.mem_append_left _ (List.mem_of_getElem? (i := 4) rfl))
theorem ws_X10_takeCount : Cond.selects RX10 yX10_takeCount yX10_takeCount ∈ AL := wpriv (q := (yX10_takeCount, 9)) (show _ ∈ lw_privs_1 ++ (lw_privs_2 ++ (lw_privs_3 ++ (lw_privs_4 ++ (lw_privs_5 ++ (lw_privs_6 ++ (lw_privs_7 ++ (lw_privs_8))))))) from List.mem_append_left _ (List.mem_of_getElem? (i := 5) rfl))
theorem ws_X10_write : Cond.selects RX10 yX10_write yX10_write ∈ AL := AL_in (tb6 (List.mem_of_getElem? (i := 21) rfl)) rfl
theorem ws_X10_writeCount : Cond.selects RX10 yX10_writeCount yX10_writeCount ∈ AL := wpriv (q := (yX10_writeCount, 9)) (show _ ∈ lw_privs_1 ++ (lw_privs_2 ++ (lw_privs_3 ++ (lw_privs_4 ++ (lw_privs_5 ++ (lw_privs_6 ++ (lw_privs_7 ++ (lw_privs_8))))))) from List.mem_append_right _ (List.mem_append_right _ (List.mem_append_right _ (List.mem_append_left _ (List.mem_of_getElem? (i := 11) rfl)))))
theorem ws_X10_writeZeros : Cond.selects RX10 yX10_writeZeros yX10_writeZeros ∈ AL := wpriv (q := (yX10_writeZeros, 9)) (show _ ∈ lw_privs_1 ++ (lw_privs_2 ++ (lw_privs_3 ++ (lw_privs_4 ++ (lw_privs_5 ++ (lw_privs_6 ++ (lw_privs_7 ++ (lw_privs_8))))))) from List.mem_append_right _ (List.mem_append_right _ (List.mem_append_right _ (List.mem_append_left _ (List.mem_of_getElem? (i := 12) rfl)))))
theorem ws_X11_complete : Cond.selects RX11 yX11_complete yX11_complete ∈ AL := wpriv (q := (yX11_complete, 8)) (show _ ∈ lw_privs_1 ++ (lw_privs_2 ++ (lw_privs_3 ++ (lw_privs_4 ++ (lw_privs_5 ++ (lw_privs_6 ++ (lw_privs_7 ++ (lw_privs_8))))))) from List.mem_append_left _ (List.mem_of_getElem? (i := 9) rfl))
theorem ws_X11_endWith : Cond.selects RX11 yX11_endWith yX11_endWith ∈ AL := wpriv (q := (yX11_endWith, 8)) (show _ ∈ lw_privs_1 ++ (lw_privs_2 ++ (lw_privs_3 ++ (lw_privs_4 ++ (lw_privs_5 ++ (lw_privs_6 ++ (lw_privs_7 ++ (lw_privs_8))))))) from List.mem_append_left _ (List.mem_of_getElem? (i := 8) rfl))
theorem ws_X11_join : Cond.selects RX11 yX11_join yX11_join ∈ AL := wpriv (q := (yX11_join, 8)) (show _ ∈ lw_privs_1 ++ (lw_privs_2 ++ (lw_privs_3 ++ (lw_privs_4 ++ (lw_privs_5 ++ (lw_privs_6 ++ (lw_privs_7 ++ (lw_privs_8))))))) from List.mem_append_right _ (List.mem_append_right _ (List.mem_append_right _ (List.mem_append_left _ (List.mem_of_getElem? (i := 3) rfl)))))
theorem ws_X11_least : Cond.selects RX11 yX11_least yX11_least ∈ AL := wpriv (q := (yX11_least, 8)) (show _ ∈ lw_privs_1 ++ (lw_privs_2 ++ (lw_privs_3 ++ (lw_privs_4 ++ (lw_privs_5 ++ (lw_privs_6 ++ (lw_privs_7 ++ (lw_privs_8))))))) from List.mem_append_right _ (List.mem_append_right _ (List.mem_append_right _ (List.mem_append_left _ (List.mem_of_getElem? (i := 4) rfl)))))
theorem ws_X11_make : Cond.selects RX11 yX11_make yX11_make ∈ AL := AL_in (tb5 (List.mem_of_getElem? (i := 198) rfl)) rfl
theorem ws_X11_read : Cond.selects RX11 yX11_read yX11_read ∈ AL := AL_in (tb3 (List.mem_of_getElem? (i := 227) rfl)) rfl
theorem ws_X11_readHalves : Cond.selects RX11 yX11_readHalves yX11_readHalves ∈ AL := wpriv (q := (yX11_readHalves, 8)) (show _ ∈ lw_privs_1 ++ (lw_privs_2 ++ (lw_privs_3 ++ (lw_privs_4 ++ (lw_privs_5 ++ (lw_privs_6 ++ (lw_privs_7 ++ (lw_privs_8))))))) from List.mem_append_left _ (List.mem_of_getElem? (i := 3) rfl))
theorem ws_X11_readInTurn : Cond.selects RX11 yX11_readInTurn yX11_readInTurn ∈ AL := wpriv (q := (yX11_readInTurn, 8)) (show _ ∈ lw_privs_1 ++ (lw_privs_2 ++ (lw_privs_3 ++ (lw_privs_4 ++ (lw_privs_5 ++ (lw_privs_6 ++ (lw_privs_7 ++ (lw_privs_8))))))) from List.mem_append_left _ (List.mem_of_getElem? (i := 6) rfl))
theorem ws_X12_again : Cond.selects RX12 yX12_again yX12_again ∈ AL := AL_in (tb3 (List.mem_of_getElem? (i := 188) rfl)) rfl
theorem ws_X12_bits : Cond.selects RX12 yX12_bits yX12_bits ∈ AL := AL_in (tb6 (List.mem_of_getElem? (i := 91) rfl)) rfl
theorem ws_X12_cut : Cond.selects RX12 yX12_cut yX12_cut ∈ AL := AL_in (tb3 (List.mem_of_getElem? (i := 184) rfl)) rfl
theorem ws_X12_differ : Cond.selects RX12 yX12_differ yX12_differ ∈ AL := AL_in (tb3 (List.mem_of_getElem? (i := 202) rfl)) rfl
theorem ws_X12_feed : Cond.selects RX12 yX12_feed yX12_feed ∈ AL := AL_in (tb3 (List.mem_of_getElem? (i := 154) rfl)) rfl
theorem ws_X12_fill : Cond.selects RX12 yX12_fill yX12_fill ∈ AL := AL_in (tb3 (List.mem_of_getElem? (i := 162) rfl)) rfl
theorem ws_X12_keep : Cond.selects RX12 yX12_keep yX12_keep ∈ AL := AL_in (tb3 (List.mem_of_getElem? (i := 207) rfl)) rfl
theorem ws_X12_open : Cond.selects RX12 yX12_open yX12_open ∈ AL := AL_in (tb4 (List.mem_of_getElem? (i := 72) rfl)) rfl
theorem ws_X12_out : Cond.selects RX12 yX12_out yX12_out ∈ AL := AL_in (tb6 (List.mem_of_getElem? (i := 67) rfl)) rfl
theorem ws_X12_pack : Cond.selects RX12 yX12_pack yX12_pack ∈ AL := AL_in (tb5 (List.mem_of_getElem? (i := 118) rfl)) rfl
theorem ws_X12_place : Cond.selects RX12 yX12_place yX12_place ∈ AL := AL_in (tb5 (List.mem_of_getElem? (i := 114) rfl)) rfl
theorem ws_X12_sequence : Cond.selects RX12 yX12_sequence yX12_sequence ∈ AL := AL_in (tb6 (List.mem_of_getElem? (i := 80) rfl)) rfl
theorem ws_X12_set : Cond.selects RX12 yX12_set yX12_set ∈ AL := AL_in (tb3 (List.mem_of_getElem? (i := 172) rfl)) rfl
theorem ws_X12_size : Cond.selects RX12 yX12_size yX12_size ∈ AL := AL_in (tb3 (List.mem_of_getElem? (i := 168) rfl)) rfl
theorem ws_X12_spareCameOut : Cond.selects RX12 yX12_spareCameOut yX12_spareCameOut ∈ AL := wpriv (q := (yX12_spareCameOut, 11)) (show _ ∈ lw_privs_1 ++ (lw_privs_2 ++ (lw_privs_3 ++ (lw_privs_4 ++ (lw_privs_5 ++ (lw_privs_6 ++ (lw_privs_7 ++ (lw_privs_8))))))) from List.mem_append_right _ (List.mem_append_right _ (List.mem_append_left _ (List.mem_of_getElem? (i := 8) rfl))))
theorem ws_X12_sum : Cond.selects RX12 yX12_sum yX12_sum ∈ AL := AL_in (tb6 (List.mem_of_getElem? (i := 71) rfl)) rfl
theorem ws_X12_swap : Cond.selects RX12 yX12_swap yX12_swap ∈ AL := AL_in (tb3 (List.mem_of_getElem? (i := 198) rfl)) rfl
theorem ws_X12_table : Cond.selects RX12 yX12_table yX12_table ∈ AL := AL_in (tb6 (List.mem_of_getElem? (i := 84) rfl)) rfl
theorem ws_X12_told : Cond.selects RX12 yX12_told yX12_told ∈ AL := AL_in (tb6 (List.mem_of_getElem? (i := 76) rfl)) rfl
theorem ws_X12_unusedDictionary : Cond.selects RX12 yX12_unusedDictionary yX12_unusedDictionary ∈ AL := wpriv (q := (yX12_unusedDictionary, 11)) (show _ ∈ lw_privs_1 ++ (lw_privs_2 ++ (lw_privs_3 ++ (lw_privs_4 ++ (lw_privs_5 ++ (lw_privs_6 ++ (lw_privs_7 ++ (lw_privs_8))))))) from List.mem_append_left _ (List.mem_of_getElem? (i := 2) rfl))
theorem ws_X13_again : Cond.selects RX13 yX13_again yX13_again ∈ AL := AL_in (tb7 (List.mem_of_getElem? (i := 114) rfl)) rfl
theorem ws_X13_all : Cond.selects RX13 yX13_all yX13_all ∈ AL := wpriv (q := (yX13_all, 75)) (show _ ∈ lw_privs_1 ++ (lw_privs_2 ++ (lw_privs_3 ++ (lw_privs_4 ++ (lw_privs_5 ++ (lw_privs_6 ++ (lw_privs_7 ++ (lw_privs_8))))))) from List.mem_append_right _ (List.mem_append_right _ (List.mem_append_right _ (List.mem_append_right _ (List.mem_append_right _ (List.mem_append_left _ (List.mem_of_getElem? (i := 13) rfl)))))))
theorem ws_X13_alone : Cond.selects RX13 yX13_alone yX13_alone ∈ AL := wpriv (q := (yX13_alone, 75)) (show _ ∈ lw_privs_1 ++ (lw_privs_2 ++ (lw_privs_3 ++ (lw_privs_4 ++ (lw_privs_5 ++ (lw_privs_6 ++ (lw_privs_7 ++ (lw_privs_8))))))) from List.mem_append_right _ (List.mem_append_right _ (List.mem_append_right _ (List.mem_append_right _ (List.mem_append_right _ (List.mem_append_left _ (List.mem_of_getElem? (i := 12) rfl)))))))
theorem ws_X13_areCoded : Cond.selects RX13 yX13_areCoded yX13_areCoded ∈ AL := wpriv (q := (yX13_areCoded, 75)) (show _ ∈ lw_privs_1 ++ (lw_privs_2 ++ (lw_privs_3 ++ (lw_privs_4 ++ (lw_privs_5 ++ (lw_privs_6 ++ (lw_privs_7 ++ (lw_privs_8))))))) from List.mem_append_right _ (List.mem_append_right _ (List.mem_append_right _ (List.mem_append_right _ (List.mem_append_right _ (List.mem_append_right _ (List.mem_append_left _ (List.mem_of_getElem? (i := 7) rfl))))))))
theorem ws_X13_areSame : Cond.selects RX13 yX13_areSame yX13_areSame ∈ AL := wpriv (q := (yX13_areSame, 75)) (show _ ∈ lw_privs_1 ++ (lw_privs_2 ++ (lw_privs_3 ++ (lw_privs_4 ++ (lw_privs_5 ++ (lw_privs_6 ++ (lw_privs_7 ++ (lw_privs_8))))))) from List.mem_append_right _ (List.mem_append_right _ (List.mem_append_right _ (List.mem_append_right _ (List.mem_append_right _ (List.mem_append_right _ (List.mem_append_left _ (List.mem_of_getElem? (i := 2) rfl))))))))
theorem ws_X13_back : Cond.selects RX13 yX13_back yX13_back ∈ AL := wpriv (q := (yX13_back, 75)) (show _ ∈ lw_privs_1 ++ (lw_privs_2 ++ (lw_privs_3 ++ (lw_privs_4 ++ (lw_privs_5 ++ (lw_privs_6 ++ (lw_privs_7 ++ (lw_privs_8))))))) from List.mem_append_right _ (List.mem_append_right _ (List.mem_append_right _ (List.mem_append_right _ (List.mem_append_left _ (List.mem_of_getElem? (i := 10) rfl))))))
theorem ws_X13_begin : Cond.selects RX13 yX13_begin yX13_begin ∈ AL := wpriv (q := (yX13_begin, 75)) (show _ ∈ lw_privs_1 ++ (lw_privs_2 ++ (lw_privs_3 ++ (lw_privs_4 ++ (lw_privs_5 ++ (lw_privs_6 ++ (lw_privs_7 ++ (lw_privs_8))))))) from List.mem_append_right _ (List.mem_append_right _ (List.mem_append_right _ (List.mem_append_right _ (List.mem_append_right _ (List.mem_append_left _ (List.mem_of_getElem? (i := 3) rfl)))))))
theorem ws_X13_bit : Cond.selects RX13 yX13_bit yX13_bit ∈ AL := wpriv (q := (yX13_bit, 75)) (show _ ∈ lw_privs_1 ++ (lw_privs_2 ++ (lw_privs_3 ++ (lw_privs_4 ++ (lw_privs_5 ++ (lw_privs_6 ++ (lw_privs_7 ++ (lw_privs_8))))))) from List.mem_append_right _ (List.mem_append_right _ (List.mem_append_right _ (List.mem_append_right _ (List.mem_append_right _ (List.mem_append_right _ (List.mem_append_right _ (List.mem_of_getElem? (i := 2) rfl))))))))
theorem ws_X13_bits : Cond.selects RX13 yX13_bits yX13_bits ∈ AL := AL_in (tb8 (List.mem_of_getElem? (i := 96) rfl)) rfl
theorem ws_X13_blockAt : Cond.selects RX13 yX13_blockAt yX13_blockAt ∈ AL := wpriv (q := (yX13_blockAt, 75)) (show _ ∈ lw_privs_1 ++ (lw_privs_2 ++ (lw_privs_3 ++ (lw_privs_4 ++ (lw_privs_5 ++ (lw_privs_6 ++ (lw_privs_7 ++ (lw_privs_8))))))) from List.mem_append_right _ (List.mem_append_right _ (List.mem_append_right _ (List.mem_append_right _ (List.mem_append_right _ (List.mem_append_left _ (List.mem_of_getElem? (i := 4) rfl)))))))
theorem ws_X13_code : Cond.selects RX13 yX13_code yX13_code ∈ AL := wpriv (q := (yX13_code, 75)) (show _ ∈ lw_privs_1 ++ (lw_privs_2 ++ (lw_privs_3 ++ (lw_privs_4 ++ (lw_privs_5 ++ (lw_privs_6 ++ (lw_privs_7 ++ (lw_privs_8))))))) from List.mem_append_right _ (List.mem_append_right _ (List.mem_append_right _ (List.mem_append_right _ (List.mem_append_left _ (List.mem_of_getElem? (i := 3) rfl))))))
theorem ws_X13_codeOf : Cond.selects RX13 yX13_codeOf yX13_codeOf ∈ AL := wpriv (q := (yX13_codeOf, 75)) (show _ ∈ lw_privs_1 ++ (lw_privs_2 ++ (lw_privs_3 ++ (lw_privs_4 ++ (lw_privs_5 ++ (lw_privs_6 ++ (lw_privs_7 ++ (lw_privs_8))))))) from List.mem_append_right _ (List.mem_append_right _ (List.mem_append_right _ (List.mem_append_right _ (List.mem_append_left _ (List.mem_of_getElem? (i := 11) rfl))))))
theorem ws_X13_content : Cond.selects RX13 yX13_content yX13_content ∈ AL := wpriv (q := (yX13_content, 75)) (show _ ∈ lw_privs_1 ++ (lw_privs_2 ++ (lw_privs_3 ++ (lw_privs_4 ++ (lw_privs_5 ++ (lw_privs_6 ++ (lw_privs_7 ++ (lw_privs_8))))))) from List.mem_append_right _ (List.mem_append_right _ (List.mem_append_right _ (List.mem_append_right _ (List.mem_append_left _ (List.mem_of_getElem? (i := 1) rfl))))))
theorem ws_X13_copyCode : Cond.selects RX13 yX13_copyCode yX13_copyCode ∈ AL := wpriv (q := (yX13_copyCode, 75)) (show _ ∈ lw_privs_1 ++ (lw_privs_2 ++ (lw_privs_3 ++ (lw_privs_4 ++ (lw_privs_5 ++ (lw_privs_6 ++ (lw_privs_7 ++ (lw_privs_8))))))) from List.mem_append_right _ (List.mem_append_right _ (List.mem_append_right _ (List.mem_append_right _ (List.mem_append_left _ (List.mem_of_getElem? (i := 14) rfl))))))
theorem ws_X13_copyTable : Cond.selects RX13 yX13_copyTable yX13_copyTable ∈ AL := wpriv (q := (yX13_copyTable, 75)) (show _ ∈ lw_privs_1 ++ (lw_privs_2 ++ (lw_privs_3 ++ (lw_privs_4 ++ (lw_privs_5 ++ (lw_privs_6 ++ (lw_privs_7 ++ (lw_privs_8))))))) from List.mem_append_right _ (List.mem_append_right _ (List.mem_append_right _ (List.mem_append_right _ (List.mem_append_left _ (List.mem_of_getElem? (i := 13) rfl))))))
theorem ws_X13_cut : Cond.selects RX13 yX13_cut yX13_cut ∈ AL := AL_in (tb7 (List.mem_of_getElem? (i := 110) rfl)) rfl
theorem ws_X13_defaults : Cond.selects RX13 yX13_defaults yX13_defaults ∈ AL := wpriv (q := (yX13_defaults, 75)) (show _ ∈ lw_privs_1 ++ (lw_privs_2 ++ (lw_privs_3 ++ (lw_privs_4 ++ (lw_privs_5 ++ (lw_privs_6 ++ (lw_privs_7 ++ (lw_privs_8))))))) from List.mem_append_right _ (List.mem_append_right _ (List.mem_append_right _ (List.mem_append_right _ (List.mem_append_right _ (List.mem_append_left _ (List.mem_of_getElem? (i := 11) rfl)))))))
theorem ws_X13_depths : Cond.selects RX13 yX13_depths yX13_depths ∈ AL := wpriv (q := (yX13_depths, 75)) (show _ ∈ lw_privs_1 ++ (lw_privs_2 ++ (lw_privs_3 ++ (lw_privs_4 ++ (lw_privs_5 ++ (lw_privs_6 ++ (lw_privs_7 ++ (lw_privs_8))))))) from List.mem_append_right _ (List.mem_append_right _ (List.mem_append_right _ (List.mem_append_right _ (List.mem_append_right _ (List.mem_append_right _ (List.mem_append_left _ (List.mem_of_getElem? (i := 9) rfl))))))))
theorem ws_X13_differ : Cond.selects RX13 yX13_differ yX13_differ ∈ AL := AL_in (tb7 (List.mem_of_getElem? (i := 122) rfl)) rfl
theorem ws_X13_digit : Cond.selects RX13 yX13_digit yX13_digit ∈ AL := wpriv (q := (yX13_digit, 75)) (show _ ∈ lw_privs_1 ++ (lw_privs_2 ++ (lw_privs_3 ++ (lw_privs_4 ++ (lw_privs_5 ++ (lw_privs_6 ++ (lw_privs_7 ++ (lw_privs_8))))))) from List.mem_append_right _ (List.mem_append_right _ (List.mem_append_right _ (List.mem_append_right _ (List.mem_append_right _ (List.mem_append_right _ (List.mem_append_left _ (List.mem_of_getElem? (i := 13) rfl))))))))
theorem ws_X13_fails : Cond.selects RX13 yX13_fails yX13_fails ∈ AL := wpriv (q := (yX13_fails, 75)) (show _ ∈ lw_privs_1 ++ (lw_privs_2 ++ (lw_privs_3 ++ (lw_privs_4 ++ (lw_privs_5 ++ (lw_privs_6 ++ (lw_privs_7 ++ (lw_privs_8))))))) from List.mem_append_right _ (List.mem_append_right _ (List.mem_append_right _ (List.mem_append_right _ (List.mem_append_left _ (List.mem_of_getElem? (i := 12) rfl))))))
theorem ws_X13_feed : Cond.selects RX13 yX13_feed yX13_feed ∈ AL := AL_in (tb7 (List.mem_of_getElem? (i := 92) rfl)) rfl
theorem ws_X13_fill : Cond.selects RX13 yX13_fill yX13_fill ∈ AL := AL_in (tb7 (List.mem_of_getElem? (i := 96) rfl)) rfl
theorem ws_X13_findActs : Cond.selects RX13 yX13_findActs yX13_findActs ∈ AL := wpriv (q := (yX13_findActs, 75)) (show _ ∈ lw_privs_1 ++ (lw_privs_2 ++ (lw_privs_3 ++ (lw_privs_4 ++ (lw_privs_5 ++ (lw_privs_6 ++ (lw_privs_7 ++ (lw_privs_8))))))) from List.mem_append_right _ (List.mem_append_right _ (List.mem_append_right _ (List.mem_append_right _ (List.mem_append_right _ (List.mem_append_right _ (List.mem_append_left _ (List.mem_of_getElem? (i := 3) rfl))))))))
theorem ws_X13_forward : Cond.selects RX13 yX13_forward yX13_forward ∈ AL := wpriv (q := (yX13_forward, 75)) (show _ ∈ lw_privs_1 ++ (lw_privs_2 ++ (lw_privs_3 ++ (lw_privs_4 ++ (lw_privs_5 ++ (lw_privs_6 ++ (lw_privs_7 ++ (lw_privs_8))))))) from List.mem_append_right _ (List.mem_append_right _ (List.mem_append_right _ (List.mem_append_right _ (List.mem_append_left _ (List.mem_of_getElem? (i := 7) rfl))))))
theorem ws_X13_frame : Cond.selects RX13 yX13_frame yX13_frame ∈ AL := wpriv (q := (yX13_frame, 75)) (show _ ∈ lw_privs_1 ++ (lw_privs_2 ++ (lw_privs_3 ++ (lw_privs_4 ++ (lw_privs_5 ++ (lw_privs_6 ++ (lw_privs_7 ++ (lw_privs_8))))))) from List.mem_append_right _ (List.mem_append_right _ (List.mem_append_right _ (List.mem_append_right _ (List.mem_append_left _ (List.mem_of_getElem? (i := 15) rfl))))))
theorem ws_X13_goOn : Cond.selects RX13 yX13_goOn yX13_goOn ∈ AL := wpriv (q := (yX13_goOn, 75)) (show _ ∈ lw_privs_1 ++ (lw_privs_2 ++ (lw_privs_3 ++ (lw_privs_4 ++ (lw_privs_5 ++ (lw_privs_6 ++ (lw_privs_7 ++ (lw_privs_8))))))) from List.mem_append_right _ (List.mem_append_right _ (List.mem_append_right _ (List.mem_append_right _ (List.mem_append_right _ (List.mem_append_right _ (List.mem_append_right _ (List.mem_of_getElem? (i := 4) rfl))))))))
theorem ws_X13_head : Cond.selects RX13 yX13_head yX13_head ∈ AL := wpriv (q := (yX13_head, 75)) (show _ ∈ lw_privs_1 ++ (lw_privs_2 ++ (lw_privs_3 ++ (lw_privs_4 ++ (lw_privs_5 ++ (lw_privs_6 ++ (lw_privs_7 ++ (lw_privs_8))))))) from List.mem_append_right _ (List.mem_append_right _ (List.mem_append_right _ (List.mem_append_right _ (List.mem_append_right _ (List.mem_append_left _ (List.mem_of_getElem? (i := 1) rfl)))))))
theorem ws_X13_keep : Cond.selects RX13 yX13_keep yX13_keep ∈ AL := AL_in (tb7 (List.mem_of_getElem? (i := 157) rfl)) rfl
theorem ws_X13_least : Cond.selects RX13 yX13_least yX13_least ∈ AL := wpriv (q := (yX13_least, 75)) (show _ ∈ lw_privs_1 ++ (lw_privs_2 ++ (lw_privs_3 ++ (lw_privs_4 ++ (lw_privs_5 ++ (lw_privs_6 ++ (lw_privs_7 ++ (lw_privs_8))))))) from List.mem_append_right _ (List.mem_append_right _ (List.mem_append_right _ (List.mem_append_right _ (List.mem_append_right _ (List.mem_append_right _ (List.mem_append_left _ (List.mem_of_getElem? (i := 10) rfl))))))))
theorem ws_X13_lettersFrom : Cond.selects RX13 yX13_lettersFrom yX13_lettersFrom ∈ AL := wpriv (q := (yX13_lettersFrom, 75)) (show _ ∈ lw_privs_1 ++ (lw_privs_2 ++ (lw_privs_3 ++ (lw_privs_4 ++ (lw_privs_5 ++ (lw_privs_6 ++ (lw_privs_7 ++ (lw_privs_8))))))) from List.mem_append_right _ (List.mem_append_right _ (List.mem_append_right _ (List.mem_append_right _ (List.mem_append_right _ (List.mem_append_left _ (List.mem_of_getElem? (i := 6) rfl)))))))
theorem ws_X13_noCounts : Cond.selects RX13 yX13_noCounts yX13_noCounts ∈ AL := wpriv (q := (yX13_noCounts, 75)) (show _ ∈ lw_privs_1 ++ (lw_privs_2 ++ (lw_privs_3 ++ (lw_privs_4 ++ (lw_privs_5 ++ (lw_privs_6 ++ (lw_privs_7 ++ (lw_privs_8))))))) from List.mem_append_right _ (List.mem_append_right _ (List.mem_append_right _ (List.mem_append_right _ (List.mem_append_left _ (List.mem_of_getElem? (i := 6) rfl))))))
theorem ws_X13_offsetOf : Cond.selects RX13 yX13_offsetOf yX13_offsetOf ∈ AL := wpriv (q := (yX13_offsetOf, 75)) (show _ ∈ lw_privs_1 ++ (lw_privs_2 ++ (lw_privs_3 ++ (lw_privs_4 ++ (lw_privs_5 ++ (lw_privs_6 ++ (lw_privs_7 ++ (lw_privs_8))))))) from List.mem_append_right _ (List.mem_append_right _ (List.mem_append_right _ (List.mem_append_right _ (List.mem_append_right _ (List.mem_append_left _ (List.mem_of_getElem? (i := 15) rfl)))))))
theorem ws_X13_open : Cond.selects RX13 yX13_open yX13_open ∈ AL := AL_in (tb7 (List.mem_of_getElem? (i := 227) rfl)) rfl
theorem ws_X13_out : Cond.selects RX13 yX13_out yX13_out ∈ AL := AL_in (tb7 (List.mem_of_getElem? (i := 126) rfl)) rfl
theorem ws_X13_pack : Cond.selects RX13 yX13_pack yX13_pack ∈ AL := AL_in (tb8 (List.mem_of_getElem? (i := 100) rfl)) rfl
theorem ws_X13_packed : Cond.selects RX13 yX13_packed yX13_packed ∈ AL := wpriv (q := (yX13_packed, 75)) (show _ ∈ lw_privs_1 ++ (lw_privs_2 ++ (lw_privs_3 ++ (lw_privs_4 ++ (lw_privs_5 ++ (lw_privs_6 ++ (lw_privs_7 ++ (lw_privs_8))))))) from List.mem_append_right _ (List.mem_append_right _ (List.mem_append_right _ (List.mem_append_right _ (List.mem_append_right _ (List.mem_append_left _ (List.mem_of_getElem? (i := 5) rfl)))))))
theorem ws_X13_place : Cond.selects RX13 yX13_place yX13_place ∈ AL := AL_in (tb7 (List.mem_of_getElem? (i := 130) rfl)) rfl
theorem ws_X13_reversed : Cond.selects RX13 yX13_reversed yX13_reversed ∈ AL := wpriv (q := (yX13_reversed, 75)) (show _ ∈ lw_privs_1 ++ (lw_privs_2 ++ (lw_privs_3 ++ (lw_privs_4 ++ (lw_privs_5 ++ (lw_privs_6 ++ (lw_privs_7 ++ (lw_privs_8))))))) from List.mem_append_right _ (List.mem_append_right _ (List.mem_append_right _ (List.mem_append_right _ (List.mem_append_left _ (List.mem_of_getElem? (i := 9) rfl))))))
theorem ws_X13_say : Cond.selects RX13 yX13_say yX13_say ∈ AL := wpriv (q := (yX13_say, 75)) (show _ ∈ lw_privs_1 ++ (lw_privs_2 ++ (lw_privs_3 ++ (lw_privs_4 ++ (lw_privs_5 ++ (lw_privs_6 ++ (lw_privs_7 ++ (lw_privs_8))))))) from List.mem_append_right _ (List.mem_append_right _ (List.mem_append_right _ (List.mem_append_right _ (List.mem_append_right _ (List.mem_append_right _ (List.mem_append_left _ (List.mem_of_getElem? (i := 0) rfl))))))))
theorem ws_X13_sayBlock : Cond.selects RX13 yX13_sayBlock yX13_sayBlock ∈ AL := wpriv (q := (yX13_sayBlock, 75)) (show _ ∈ lw_privs_1 ++ (lw_privs_2 ++ (lw_privs_3 ++ (lw_privs_4 ++ (lw_privs_5 ++ (lw_privs_6 ++ (lw_privs_7 ++ (lw_privs_8))))))) from List.mem_append_right _ (List.mem_append_right _ (List.mem_append_right _ (List.mem_append_right _ (List.mem_append_right _ (List.mem_append_right _ (List.mem_append_left _ (List.mem_of_getElem? (i := 1) rfl))))))))
theorem ws_X13_sayCode : Cond.selects RX13 yX13_sayCode yX13_sayCode ∈ AL := wpriv (q := (yX13_sayCode, 75)) (show _ ∈ lw_privs_1 ++ (lw_privs_2 ++ (lw_privs_3 ++ (lw_privs_4 ++ (lw_privs_5 ++ (lw_privs_6 ++ (lw_privs_7 ++ (lw_privs_8))))))) from List.mem_append_right _ (List.mem_append_right _ (List.mem_append_right _ (List.mem_append_right _ (List.mem_append_right _ (List.mem_append_right _ (List.mem_append_left _ (List.mem_of_getElem? (i := 8) rfl))))))))
theorem ws_X13_sayCounts : Cond.selects RX13 yX13_sayCounts yX13_sayCounts ∈ AL := wpriv (q := (yX13_sayCounts, 75)) (show _ ∈ lw_privs_1 ++ (lw_privs_2 ++ (lw_privs_3 ++ (lw_privs_4 ++ (lw_privs_5 ++ (lw_privs_6 ++ (lw_privs_7 ++ (lw_privs_8))))))) from List.mem_append_right _ (List.mem_append_right _ (List.mem_append_right _ (List.mem_append_right _ (List.mem_append_right _ (List.mem_append_right _ (List.mem_append_right _ (List.mem_of_getElem? (i := 1) rfl))))))))
theorem ws_X13_sayDigits : Cond.selects RX13 yX13_sayDigits yX13_sayDigits ∈ AL := wpriv (q := (yX13_sayDigits, 75)) (show _ ∈ lw_privs_1 ++ (lw_privs_2 ++ (lw_privs_3 ++ (lw_privs_4 ++ (lw_privs_5 ++ (lw_privs_6 ++ (lw_privs_7 ++ (lw_privs_8))))))) from List.mem_append_right _ (List.mem_append_right _ (List.mem_append_right _ (List.mem_append_right _ (List.mem_append_right _ (List.mem_append_right _ (List.mem_append_left _ (List.mem_of_getElem? (i := 14) rfl))))))))
theorem ws_X13_sayHead : Cond.selects RX13 yX13_sayHead yX13_sayHead ∈ AL := wpriv (q := (yX13_sayHead, 75)) (show _ ∈ lw_privs_1 ++ (lw_privs_2 ++ (lw_privs_3 ++ (lw_privs_4 ++ (lw_privs_5 ++ (lw_privs_6 ++ (lw_privs_7 ++ (lw_privs_8))))))) from List.mem_append_right _ (List.mem_append_right _ (List.mem_append_right _ (List.mem_append_right _ (List.mem_append_right _ (List.mem_append_right _ (List.mem_append_left _ (List.mem_of_getElem? (i := 6) rfl))))))))
theorem ws_X13_sayLetters : Cond.selects RX13 yX13_sayLetters yX13_sayLetters ∈ AL := wpriv (q := (yX13_sayLetters, 75)) (show _ ∈ lw_privs_1 ++ (lw_privs_2 ++ (lw_privs_3 ++ (lw_privs_4 ++ (lw_privs_5 ++ (lw_privs_6 ++ (lw_privs_7 ++ (lw_privs_8))))))) from List.mem_append_right _ (List.mem_append_right _ (List.mem_append_right _ (List.mem_append_right _ (List.mem_append_right _ (List.mem_append_right _ (List.mem_append_left _ (List.mem_of_getElem? (i := 5) rfl))))))))
theorem ws_X13_saySequences : Cond.selects RX13 yX13_saySequences yX13_saySequences ∈ AL := wpriv (q := (yX13_saySequences, 75)) (show _ ∈ lw_privs_1 ++ (lw_privs_2 ++ (lw_privs_3 ++ (lw_privs_4 ++ (lw_privs_5 ++ (lw_privs_6 ++ (lw_privs_7 ++ (lw_privs_8))))))) from List.mem_append_right _ (List.mem_append_right _ (List.mem_append_right _ (List.mem_append_right _ (List.mem_append_right _ (List.mem_append_right _ (List.mem_append_left _ (List.mem_of_getElem? (i := 15) rfl))))))))
theorem ws_X13_sayStreams : Cond.selects RX13 yX13_sayStreams yX13_sayStreams ∈ AL := wpriv (q := (yX13_sayStreams, 75)) (show _ ∈ lw_privs_1 ++ (lw_privs_2 ++ (lw_privs_3 ++ (lw_privs_4 ++ (lw_privs_5 ++ (lw_privs_6 ++ (lw_privs_7 ++ (lw_privs_8))))))) from List.mem_append_right _ (List.mem_append_right _ (List.mem_append_right _ (List.mem_append_right _ (List.mem_append_right _ (List.mem_append_right _ (List.mem_append_left _ (List.mem_of_getElem? (i := 11) rfl))))))))
theorem ws_X13_sayTable : Cond.selects RX13 yX13_sayTable yX13_sayTable ∈ AL := wpriv (q := (yX13_sayTable, 75)) (show _ ∈ lw_privs_1 ++ (lw_privs_2 ++ (lw_privs_3 ++ (lw_privs_4 ++ (lw_privs_5 ++ (lw_privs_6 ++ (lw_privs_7 ++ (lw_privs_8))))))) from List.mem_append_right _ (List.mem_append_right _ (List.mem_append_right _ (List.mem_append_right _ (List.mem_append_right _ (List.mem_append_right _ (List.mem_append_right _ (List.mem_of_getElem? (i := 0) rfl))))))))
theorem ws_X13_sections : Cond.selects RX13 yX13_sections yX13_sections ∈ AL := wpriv (q := (yX13_sections, 75)) (show _ ∈ lw_privs_1 ++ (lw_privs_2 ++ (lw_privs_3 ++ (lw_privs_4 ++ (lw_privs_5 ++ (lw_privs_6 ++ (lw_privs_7 ++ (lw_privs_8))))))) from List.mem_append_right _ (List.mem_append_right _ (List.mem_append_right _ (List.mem_append_right _ (List.mem_append_right _ (List.mem_append_left _ (List.mem_of_getElem? (i := 9) rfl)))))))
theorem ws_X13_sequence : Cond.selects RX13 yX13_sequence yX13_sequence ∈ AL := wpriv (q := (yX13_sequence, 75)) (show _ ∈ lw_privs_1 ++ (lw_privs_2 ++ (lw_privs_3 ++ (lw_privs_4 ++ (lw_privs_5 ++ (lw_privs_6 ++ (lw_privs_7 ++ (lw_privs_8))))))) from List.mem_append_right _ (List.mem_append_right _ (List.mem_append_right _ (List.mem_append_right _ (List.mem_append_right _ (List.mem_append_left _ (List.mem_of_getElem? (i := 14) rfl)))))))
theorem ws_X13_sequence_ : Cond.selects RX13 yX13_sequence_ yX13_sequence_ ∈ AL := AL_in (tb8 (List.mem_of_getElem? (i := 88) rfl)) rfl
theorem ws_X13_set : Cond.selects RX13 yX13_set yX13_set ∈ AL := AL_in (tb7 (List.mem_of_getElem? (i := 106) rfl)) rfl
theorem ws_X13_size : Cond.selects RX13 yX13_size yX13_size ∈ AL := AL_in (tb7 (List.mem_of_getElem? (i := 102) rfl)) rfl
theorem ws_X13_sized : Cond.selects RX13 yX13_sized yX13_sized ∈ AL := wpriv (q := (yX13_sized, 75)) (show _ ∈ lw_privs_1 ++ (lw_privs_2 ++ (lw_privs_3 ++ (lw_privs_4 ++ (lw_privs_5 ++ (lw_privs_6 ++ (lw_privs_7 ++ (lw_privs_8))))))) from List.mem_append_right _ (List.mem_append_right _ (List.mem_append_right _ (List.mem_append_right _ (List.mem_append_right _ (List.mem_append_left _ (List.mem_of_getElem? (i := 2) rfl)))))))
theorem ws_X13_states : Cond.selects RX13 yX13_states yX13_states ∈ AL := wpriv (q := (yX13_states, 75)) (show _ ∈ lw_privs_1 ++ (lw_privs_2 ++ (lw_privs_3 ++ (lw_privs_4 ++ (lw_privs_5 ++ (lw_privs_6 ++ (lw_privs_7 ++ (lw_privs_8))))))) from List.mem_append_right _ (List.mem_append_right _ (List.mem_append_right _ (List.mem_append_right _ (List.mem_append_right _ (List.mem_append_right _ (List.mem_append_right _ (List.mem_of_getElem? (i := 3) rfl))))))))
theorem ws_X13_stream : Cond.selects RX13 yX13_stream yX13_stream ∈ AL := wpriv (q := (yX13_stream, 75)) (show _ ∈ lw_privs_1 ++ (lw_privs_2 ++ (lw_privs_3 ++ (lw_privs_4 ++ (lw_privs_5 ++ (lw_privs_6 ++ (lw_privs_7 ++ (lw_privs_8))))))) from List.mem_append_right _ (List.mem_append_right _ (List.mem_append_right _ (List.mem_append_right _ (List.mem_append_right _ (List.mem_append_left _ (List.mem_of_getElem? (i := 8) rfl)))))))
theorem ws_X13_stream_ : Cond.selects RX13 yX13_stream_ yX13_stream_ ∈ AL := wpriv (q := (yX13_stream_, 75)) (show _ ∈ lw_privs_1 ++ (lw_privs_2 ++ (lw_privs_3 ++ (lw_privs_4 ++ (lw_privs_5 ++ (lw_privs_6 ++ (lw_privs_7 ++ (lw_privs_8))))))) from List.mem_append_right _ (List.mem_append_right _ (List.mem_append_right _ (List.mem_append_right _ (List.mem_append_right _ (List.mem_append_right _ (List.mem_append_left _ (List.mem_of_getElem? (i := 12) rfl))))))))
theorem ws_X13_streams : Cond.selects RX13 yX13_streams yX13_streams ∈ AL := wpriv (q := (yX13_streams, 75)) (show _ ∈ lw_privs_1 ++ (lw_privs_2 ++ (lw_privs_3 ++ (lw_privs_4 ++ (lw_privs_5 ++ (lw_privs_6 ++ (lw_privs_7 ++ (lw_privs_8))))))) from List.mem_append_right _ (List.mem_append_right _ (List.mem_append_right _ (List.mem_append_right _ (List.mem_append_right _ (List.mem_append_left _ (List.mem_of_getElem? (i := 7) rfl)))))))
theorem ws_X13_sum : Cond.selects RX13 yX13_sum yX13_sum ∈ AL := AL_in (tb7 (List.mem_of_getElem? (i := 134) rfl)) rfl
theorem ws_X13_swap : Cond.selects RX13 yX13_swap yX13_swap ∈ AL := AL_in (tb7 (List.mem_of_getElem? (i := 118) rfl)) rfl
theorem ws_X13_table : Cond.selects RX13 yX13_table yX13_table ∈ AL := wpriv (q := (yX13_table, 75)) (show _ ∈ lw_privs_1 ++ (lw_privs_2 ++ (lw_privs_3 ++ (lw_privs_4 ++ (lw_privs_5 ++ (lw_privs_6 ++ (lw_privs_7 ++ (lw_privs_8))))))) from List.mem_append_right _ (List.mem_append_right _ (List.mem_append_right _ (List.mem_append_right _ (List.mem_append_left _ (List.mem_of_getElem? (i := 8) rfl))))))
theorem ws_X13_table_ : Cond.selects RX13 yX13_table_ yX13_table_ ∈ AL := AL_in (tb8 (List.mem_of_getElem? (i := 92) rfl)) rfl
theorem ws_X13_tabled : Cond.selects RX13 yX13_tabled yX13_tabled ∈ AL := wpriv (q := (yX13_tabled, 75)) (show _ ∈ lw_privs_1 ++ (lw_privs_2 ++ (lw_privs_3 ++ (lw_privs_4 ++ (lw_privs_5 ++ (lw_privs_6 ++ (lw_privs_7 ++ (lw_privs_8))))))) from List.mem_append_right _ (List.mem_append_right _ (List.mem_append_right _ (List.mem_append_right _ (List.mem_append_left _ (List.mem_of_getElem? (i := 2) rfl))))))
theorem ws_X13_told : Cond.selects RX13 yX13_told yX13_told ∈ AL := AL_in (tb8 (List.mem_of_getElem? (i := 84) rfl)) rfl
theorem ws_X13_toldCounts : Cond.selects RX13 yX13_toldCounts yX13_toldCounts ∈ AL := wpriv (q := (yX13_toldCounts, 75)) (show _ ∈ lw_privs_1 ++ (lw_privs_2 ++ (lw_privs_3 ++ (lw_privs_4 ++ (lw_privs_5 ++ (lw_privs_6 ++ (lw_privs_7 ++ (lw_privs_8))))))) from List.mem_append_right _ (List.mem_append_right _ (List.mem_append_right _ (List.mem_append_right _ (List.mem_append_left _ (List.mem_of_getElem? (i := 5) rfl))))))
theorem ws_X13_toldTable : Cond.selects RX13 yX13_toldTable yX13_toldTable ∈ AL := wpriv (q := (yX13_toldTable, 75)) (show _ ∈ lw_privs_1 ++ (lw_privs_2 ++ (lw_privs_3 ++ (lw_privs_4 ++ (lw_privs_5 ++ (lw_privs_6 ++ (lw_privs_7 ++ (lw_privs_8))))))) from List.mem_append_right _ (List.mem_append_right _ (List.mem_append_right _ (List.mem_append_right _ (List.mem_append_right _ (List.mem_append_left _ (List.mem_of_getElem? (i := 10) rfl)))))))
theorem ws_X13_toldWeights : Cond.selects RX13 yX13_toldWeights yX13_toldWeights ∈ AL := wpriv (q := (yX13_toldWeights, 75)) (show _ ∈ lw_privs_1 ++ (lw_privs_2 ++ (lw_privs_3 ++ (lw_privs_4 ++ (lw_privs_5 ++ (lw_privs_6 ++ (lw_privs_7 ++ (lw_privs_8))))))) from List.mem_append_right _ (List.mem_append_right _ (List.mem_append_right _ (List.mem_append_right _ (List.mem_append_left _ (List.mem_of_getElem? (i := 4) rfl))))))
theorem ws_X13_valueOf : Cond.selects RX13 yX13_valueOf yX13_valueOf ∈ AL := wpriv (q := (yX13_valueOf, 75)) (show _ ∈ lw_privs_1 ++ (lw_privs_2 ++ (lw_privs_3 ++ (lw_privs_4 ++ (lw_privs_5 ++ (lw_privs_6 ++ (lw_privs_7 ++ (lw_privs_8))))))) from List.mem_append_right _ (List.mem_append_right _ (List.mem_append_right _ (List.mem_append_right _ (List.mem_append_right _ (List.mem_append_right _ (List.mem_append_left _ (List.mem_of_getElem? (i := 4) rfl))))))))
theorem ws_X13_wants : Cond.selects RX13 yX13_wants yX13_wants ∈ AL := wpriv (q := (yX13_wants, 75)) (show _ ∈ lw_privs_1 ++ (lw_privs_2 ++ (lw_privs_3 ++ (lw_privs_4 ++ (lw_privs_5 ++ (lw_privs_6 ++ (lw_privs_7 ++ (lw_privs_8))))))) from List.mem_append_right _ (List.mem_append_right _ (List.mem_append_right _ (List.mem_append_right _ (List.mem_append_right _ (List.mem_append_left _ (List.mem_of_getElem? (i := 0) rfl)))))))
theorem ws_X1_build : Cond.selects RX1 yX1_build yX1_build ∈ AL := AL_in (tb4 (List.mem_of_getElem? (i := 46) rfl)) rfl
theorem ws_X1_lengthOf : Cond.selects RX1 yX1_lengthOf yX1_lengthOf ∈ AL := AL_in (tb5 (List.mem_of_getElem? (i := 213) rfl)) rfl
theorem ws_X1_symbolOf : Cond.selects RX1 yX1_symbolOf yX1_symbolOf ∈ AL := AL_in (tb4 (List.mem_of_getElem? (i := 201) rfl)) rfl
theorem ws_X2_read : Cond.selects RX2 yX2_read yX2_read ∈ AL := AL_in (tb3 (List.mem_of_getElem? (i := 215) rfl)) rfl
theorem ws_X2_readRemembered : Cond.selects RX2 yX2_readRemembered yX2_readRemembered ∈ AL := wpriv (q := (yX2_readRemembered, 7)) (show _ ∈ lw_privs_1 ++ (lw_privs_2 ++ (lw_privs_3 ++ (lw_privs_4 ++ (lw_privs_5 ++ (lw_privs_6 ++ (lw_privs_7 ++ (lw_privs_8))))))) from List.mem_append_left _ (List.mem_of_getElem? (i := 11) rfl))
theorem ws_X2_readTable : Cond.selects RX2 yX2_readTable yX2_readTable ∈ AL := wpriv (q := (yX2_readTable, 7)) (show _ ∈ lw_privs_1 ++ (lw_privs_2 ++ (lw_privs_3 ++ (lw_privs_4 ++ (lw_privs_5 ++ (lw_privs_6 ++ (lw_privs_7 ++ (lw_privs_8))))))) from List.mem_append_left _ (List.mem_of_getElem? (i := 10) rfl))
theorem ws_X2_takeContent : Cond.selects RX2 yX2_takeContent yX2_takeContent ∈ AL := AL_in (tb4 (List.mem_of_getElem? (i := 67) rfl)) rfl
theorem ws_X3_begin : Cond.selects RX3 yX3_begin yX3_begin ∈ AL := AL_in (tb5 (List.mem_of_getElem? (i := 139) rfl)) rfl
theorem ws_X3_chainOf : Cond.selects RX3 yX3_chainOf yX3_chainOf ∈ AL := wpriv (q := (yX3_chainOf, 12)) (show _ ∈ lw_privs_1 ++ (lw_privs_2 ++ (lw_privs_3 ++ (lw_privs_4 ++ (lw_privs_5 ++ (lw_privs_6 ++ (lw_privs_7 ++ (lw_privs_8))))))) from List.mem_append_right _ (List.mem_append_right _ (List.mem_append_left _ (List.mem_of_getElem? (i := 13) rfl))))
theorem ws_X3_find : Cond.selects RX3 yX3_find yX3_find ∈ AL := AL_in (tb5 (List.mem_of_getElem? (i := 154) rfl)) rfl
theorem ws_X3_findBest : Cond.selects RX3 yX3_findBest yX3_findBest ∈ AL := wpriv (q := (yX3_findBest, 12)) (show _ ∈ lw_privs_1 ++ (lw_privs_2 ++ (lw_privs_3 ++ (lw_privs_4 ++ (lw_privs_5 ++ (lw_privs_6 ++ (lw_privs_7 ++ (lw_privs_8))))))) from List.mem_append_right _ (List.mem_append_right _ (List.mem_append_left _ (List.mem_of_getElem? (i := 11) rfl))))
theorem ws_X3_linkUpTo : Cond.selects RX3 yX3_linkUpTo yX3_linkUpTo ∈ AL := wpriv (q := (yX3_linkUpTo, 12)) (show _ ∈ lw_privs_1 ++ (lw_privs_2 ++ (lw_privs_3 ++ (lw_privs_4 ++ (lw_privs_5 ++ (lw_privs_6 ++ (lw_privs_7 ++ (lw_privs_8))))))) from List.mem_append_right _ (List.mem_append_right _ (List.mem_append_left _ (List.mem_of_getElem? (i := 12) rfl))))
theorem ws_X3_sameFrom : Cond.selects RX3 yX3_sameFrom yX3_sameFrom ∈ AL := wpriv (q := (yX3_sameFrom, 12)) (show _ ∈ lw_privs_1 ++ (lw_privs_2 ++ (lw_privs_3 ++ (lw_privs_4 ++ (lw_privs_5 ++ (lw_privs_6 ++ (lw_privs_7 ++ (lw_privs_8))))))) from List.mem_append_right _ (List.mem_append_right _ (List.mem_append_left _ (List.mem_of_getElem? (i := 14) rfl))))
theorem ws_X4_beginFrame : Cond.selects RX4 yX4_beginFrame yX4_beginFrame ∈ AL := AL_in (tb4 (List.mem_of_getElem? (i := 137) rfl)) rfl
theorem ws_X4_coded : Cond.selects RX4 yX4_coded yX4_coded ∈ AL := wpriv (q := (yX4_coded, 13)) (show _ ∈ lw_privs_1 ++ (lw_privs_2 ++ (lw_privs_3 ++ (lw_privs_4 ++ (lw_privs_5 ++ (lw_privs_6 ++ (lw_privs_7 ++ (lw_privs_8))))))) from List.mem_append_right _ (List.mem_append_left _ (List.mem_of_getElem? (i := 8) rfl)))
theorem ws_X4_readBody : Cond.selects RX4 yX4_readBody yX4_readBody ∈ AL := AL_in (tb4 (List.mem_of_getElem? (i := 182) rfl)) rfl
theorem ws_X4_readCode : Cond.selects RX4 yX4_readCode yX4_readCode ∈ AL := AL_in (tb4 (List.mem_of_getElem? (i := 176) rfl)) rfl
theorem ws_X4_readFour : Cond.selects RX4 yX4_readFour yX4_readFour ∈ AL := wpriv (q := (yX4_readFour, 13)) (show _ ∈ lw_privs_1 ++ (lw_privs_2 ++ (lw_privs_3 ++ (lw_privs_4 ++ (lw_privs_5 ++ (lw_privs_6 ++ (lw_privs_7 ++ (lw_privs_8))))))) from List.mem_append_right _ (List.mem_append_left _ (List.mem_of_getElem? (i := 10) rfl)))
theorem ws_X4_readHead : Cond.selects RX4 yX4_readHead yX4_readHead ∈ AL := AL_in (tb4 (List.mem_of_getElem? (i := 164) rfl)) rfl
theorem ws_X4_readStream : Cond.selects RX4 yX4_readStream yX4_readStream ∈ AL := wpriv (q := (yX4_readStream, 13)) (show _ ∈ lw_privs_1 ++ (lw_privs_2 ++ (lw_privs_3 ++ (lw_privs_4 ++ (lw_privs_5 ++ (lw_privs_6 ++ (lw_privs_7 ++ (lw_privs_8))))))) from List.mem_append_right _ (List.mem_append_left _ (List.mem_of_getElem? (i := 9) rfl)))
theorem ws_X5_beginFrame : Cond.selects RX5 yX5_beginFrame yX5_beginFrame ∈ AL := wpriv (q := (yX5_beginFrame, 19)) (show _ ∈ lw_privs_1 ++ (lw_privs_2 ++ (lw_privs_3 ++ (lw_privs_4 ++ (lw_privs_5 ++ (lw_privs_6 ++ (lw_privs_7 ++ (lw_privs_8))))))) from List.mem_append_right _ (List.mem_append_left _ (List.mem_of_getElem? (i := 5) rfl)))
theorem ws_X5_endBlock : Cond.selects RX5 yX5_endBlock yX5_endBlock ∈ AL := wpriv (q := (yX5_endBlock, 19)) (show _ ∈ lw_privs_1 ++ (lw_privs_2 ++ (lw_privs_3 ++ (lw_privs_4 ++ (lw_privs_5 ++ (lw_privs_6 ++ (lw_privs_7 ++ (lw_privs_8))))))) from List.mem_append_right _ (List.mem_append_right _ (List.mem_append_left _ (List.mem_of_getElem? (i := 5) rfl))))
theorem ws_X5_forget : Cond.selects RX5 yX5_forget yX5_forget ∈ AL := wpriv (q := (yX5_forget, 19)) (show _ ∈ lw_privs_1 ++ (lw_privs_2 ++ (lw_privs_3 ++ (lw_privs_4 ++ (lw_privs_5 ++ (lw_privs_6 ++ (lw_privs_7 ++ (lw_privs_8))))))) from List.mem_append_left _ (List.mem_of_getElem? (i := 12) rfl))
theorem ws_X5_lacks : Cond.selects RX5 yX5_lacks yX5_lacks ∈ AL := wpriv (q := (yX5_lacks, 19)) (show _ ∈ lw_privs_1 ++ (lw_privs_2 ++ (lw_privs_3 ++ (lw_privs_4 ++ (lw_privs_5 ++ (lw_privs_6 ++ (lw_privs_7 ++ (lw_privs_8))))))) from List.mem_append_left _ (List.mem_of_getElem? (i := 15) rfl))
theorem ws_X5_openAll : Cond.selects RX5 yX5_openAll yX5_openAll ∈ AL := AL_in (tb4 (List.mem_of_getElem? (i := 76) rfl)) rfl
theorem ws_X5_passOver : Cond.selects RX5 yX5_passOver yX5_passOver ∈ AL := wpriv (q := (yX5_passOver, 19)) (show _ ∈ lw_privs_1 ++ (lw_privs_2 ++ (lw_privs_3 ++ (lw_privs_4 ++ (lw_privs_5 ++ (lw_privs_6 ++ (lw_privs_7 ++ (lw_privs_8))))))) from List.mem_append_right _ (List.mem_append_left _ (List.mem_of_getElem? (i := 0) rfl)))
theorem ws_X5_readBlockHead : Cond.selects RX5 yX5_readBlockHead yX5_readBlockHead ∈ AL := wpriv (q := (yX5_readBlockHead, 19)) (show _ ∈ lw_privs_1 ++ (lw_privs_2 ++ (lw_privs_3 ++ (lw_privs_4 ++ (lw_privs_5 ++ (lw_privs_6 ++ (lw_privs_7 ++ (lw_privs_8))))))) from List.mem_append_right _ (List.mem_append_left _ (List.mem_of_getElem? (i := 6) rfl)))
theorem ws_X5_readEnd : Cond.selects RX5 yX5_readEnd yX5_readEnd ∈ AL := wpriv (q := (yX5_readEnd, 19)) (show _ ∈ lw_privs_1 ++ (lw_privs_2 ++ (lw_privs_3 ++ (lw_privs_4 ++ (lw_privs_5 ++ (lw_privs_6 ++ (lw_privs_7 ++ (lw_privs_8))))))) from List.mem_append_right _ (List.mem_append_right _ (List.mem_append_left _ (List.mem_of_getElem? (i := 6) rfl))))
theorem ws_X5_readHead : Cond.selects RX5 yX5_readHead yX5_readHead ∈ AL := wpriv (q := (yX5_readHead, 19)) (show _ ∈ lw_privs_1 ++ (lw_privs_2 ++ (lw_privs_3 ++ (lw_privs_4 ++ (lw_privs_5 ++ (lw_privs_6 ++ (lw_privs_7 ++ (lw_privs_8))))))) from List.mem_append_right _ (List.mem_append_left _ (List.mem_of_getElem? (i := 1) rfl)))
theorem ws_X5_readMark : Cond.selects RX5 yX5_readMark yX5_readMark ∈ AL := wpriv (q := (yX5_readMark, 19)) (show _ ∈ lw_privs_1 ++ (lw_privs_2 ++ (lw_privs_3 ++ (lw_privs_4 ++ (lw_privs_5 ++ (lw_privs_6 ++ (lw_privs_7 ++ (lw_privs_8))))))) from List.mem_append_left _ (List.mem_of_getElem? (i := 13) rfl))
theorem ws_X5_readNumber : Cond.selects RX5 yX5_readNumber yX5_readNumber ∈ AL := wpriv (q := (yX5_readNumber, 19)) (show _ ∈ lw_privs_1 ++ (lw_privs_2 ++ (lw_privs_3 ++ (lw_privs_4 ++ (lw_privs_5 ++ (lw_privs_6 ++ (lw_privs_7 ++ (lw_privs_8))))))) from List.mem_append_right _ (List.mem_append_left _ (List.mem_of_getElem? (i := 3) rfl)))
theorem ws_X5_readPacked : Cond.selects RX5 yX5_readPacked yX5_readPacked ∈ AL := wpriv (q := (yX5_readPacked, 19)) (show _ ∈ lw_privs_1 ++ (lw_privs_2 ++ (lw_privs_3 ++ (lw_privs_4 ++ (lw_privs_5 ++ (lw_privs_6 ++ (lw_privs_7 ++ (lw_privs_8))))))) from List.mem_append_right _ (List.mem_append_left _ (List.mem_of_getElem? (i := 7) rfl)))
theorem ws_X5_readPlain : Cond.selects RX5 yX5_readPlain yX5_readPlain ∈ AL := wpriv (q := (yX5_readPlain, 19)) (show _ ∈ lw_privs_1 ++ (lw_privs_2 ++ (lw_privs_3 ++ (lw_privs_4 ++ (lw_privs_5 ++ (lw_privs_6 ++ (lw_privs_7 ++ (lw_privs_8))))))) from List.mem_append_right _ (List.mem_append_right _ (List.mem_append_left _ (List.mem_of_getElem? (i := 4) rfl))))
theorem ws_X5_readSize : Cond.selects RX5 yX5_readSize yX5_readSize ∈ AL := wpriv (q := (yX5_readSize, 19)) (show _ ∈ lw_privs_1 ++ (lw_privs_2 ++ (lw_privs_3 ++ (lw_privs_4 ++ (lw_privs_5 ++ (lw_privs_6 ++ (lw_privs_7 ++ (lw_privs_8))))))) from List.mem_append_right _ (List.mem_append_left _ (List.mem_of_getElem? (i := 4) rfl)))
theorem ws_X5_readSpan : Cond.selects RX5 yX5_readSpan yX5_readSpan ∈ AL := wpriv (q := (yX5_readSpan, 19)) (show _ ∈ lw_privs_1 ++ (lw_privs_2 ++ (lw_privs_3 ++ (lw_privs_4 ++ (lw_privs_5 ++ (lw_privs_6 ++ (lw_privs_7 ++ (lw_privs_8))))))) from List.mem_append_right _ (List.mem_append_left _ (List.mem_of_getElem? (i := 2) rfl)))
theorem ws_X5_there : Cond.selects RX5 yX5_there yX5_there ∈ AL := wpriv (q := (yX5_there, 19)) (show _ ∈ lw_privs_1 ++ (lw_privs_2 ++ (lw_privs_3 ++ (lw_privs_4 ++ (lw_privs_5 ++ (lw_privs_6 ++ (lw_privs_7 ++ (lw_privs_8))))))) from List.mem_append_left _ (List.mem_of_getElem? (i := 14) rfl))
theorem ws_X6_allLow : Cond.selects RX6 yX6_allLow yX6_allLow ∈ AL := wpriv (q := (yX6_allLow, 15)) (show _ ∈ lw_privs_1 ++ (lw_privs_2 ++ (lw_privs_3 ++ (lw_privs_4 ++ (lw_privs_5 ++ (lw_privs_6 ++ (lw_privs_7 ++ (lw_privs_8))))))) from List.mem_append_right _ (List.mem_append_right _ (List.mem_append_right _ (List.mem_append_left _ (List.mem_of_getElem? (i := 1) rfl)))))
theorem ws_X6_goBack : Cond.selects RX6 yX6_goBack yX6_goBack ∈ AL := wpriv (q := (yX6_goBack, 15)) (show _ ∈ lw_privs_1 ++ (lw_privs_2 ++ (lw_privs_3 ++ (lw_privs_4 ++ (lw_privs_5 ++ (lw_privs_6 ++ (lw_privs_7 ++ (lw_privs_8))))))) from List.mem_append_right _ (List.mem_append_right _ (List.mem_append_right _ (List.mem_append_left _ (List.mem_of_getElem? (i := 14) rfl)))))
theorem ws_X6_packRow : Cond.selects RX6 yX6_packRow yX6_packRow ∈ AL := AL_in (tb5 (List.mem_of_getElem? (i := 122) rfl)) rfl
theorem ws_X6_symbolOf : Cond.selects RX6 yX6_symbolOf yX6_symbolOf ∈ AL := wpriv (q := (yX6_symbolOf, 15)) (show _ ∈ lw_privs_1 ++ (lw_privs_2 ++ (lw_privs_3 ++ (lw_privs_4 ++ (lw_privs_5 ++ (lw_privs_6 ++ (lw_privs_7 ++ (lw_privs_8))))))) from List.mem_append_right _ (List.mem_append_right _ (List.mem_append_right _ (List.mem_append_left _ (List.mem_of_getElem? (i := 9) rfl)))))
theorem ws_X6_valueOf : Cond.selects RX6 yX6_valueOf yX6_valueOf ∈ AL := wpriv (q := (yX6_valueOf, 15)) (show _ ∈ lw_privs_1 ++ (lw_privs_2 ++ (lw_privs_3 ++ (lw_privs_4 ++ (lw_privs_5 ++ (lw_privs_6 ++ (lw_privs_7 ++ (lw_privs_8))))))) from List.mem_append_right _ (List.mem_append_right _ (List.mem_append_left _ (List.mem_of_getElem? (i := 15) rfl))))
theorem ws_X6_writeBlock : Cond.selects RX6 yX6_writeBlock yX6_writeBlock ∈ AL := wpriv (q := (yX6_writeBlock, 15)) (show _ ∈ lw_privs_1 ++ (lw_privs_2 ++ (lw_privs_3 ++ (lw_privs_4 ++ (lw_privs_5 ++ (lw_privs_6 ++ (lw_privs_7 ++ (lw_privs_8))))))) from List.mem_append_right _ (List.mem_append_right _ (List.mem_append_right _ (List.mem_append_right _ (List.mem_append_left _ (List.mem_of_getElem? (i := 0) rfl))))))
theorem ws_X6_writeBody : Cond.selects RX6 yX6_writeBody yX6_writeBody ∈ AL := wpriv (q := (yX6_writeBody, 15)) (show _ ∈ lw_privs_1 ++ (lw_privs_2 ++ (lw_privs_3 ++ (lw_privs_4 ++ (lw_privs_5 ++ (lw_privs_6 ++ (lw_privs_7 ++ (lw_privs_8))))))) from List.mem_append_right _ (List.mem_append_right _ (List.mem_append_left _ (List.mem_of_getElem? (i := 10) rfl))))
theorem ws_X6_writeCoded : Cond.selects RX6 yX6_writeCoded yX6_writeCoded ∈ AL := wpriv (q := (yX6_writeCoded, 15)) (show _ ∈ lw_privs_1 ++ (lw_privs_2 ++ (lw_privs_3 ++ (lw_privs_4 ++ (lw_privs_5 ++ (lw_privs_6 ++ (lw_privs_7 ++ (lw_privs_8))))))) from List.mem_append_right _ (List.mem_append_right _ (List.mem_append_right _ (List.mem_append_left _ (List.mem_of_getElem? (i := 2) rfl)))))
theorem ws_X6_writeExtra : Cond.selects RX6 yX6_writeExtra yX6_writeExtra ∈ AL := wpriv (q := (yX6_writeExtra, 15)) (show _ ∈ lw_privs_1 ++ (lw_privs_2 ++ (lw_privs_3 ++ (lw_privs_4 ++ (lw_privs_5 ++ (lw_privs_6 ++ (lw_privs_7 ++ (lw_privs_8))))))) from List.mem_append_right _ (List.mem_append_right _ (List.mem_append_right _ (List.mem_append_left _ (List.mem_of_getElem? (i := 15) rfl)))))
theorem ws_X6_writeHead : Cond.selects RX6 yX6_writeHead yX6_writeHead ∈ AL := wpriv (q := (yX6_writeHead, 15)) (show _ ∈ lw_privs_1 ++ (lw_privs_2 ++ (lw_privs_3 ++ (lw_privs_4 ++ (lw_privs_5 ++ (lw_privs_6 ++ (lw_privs_7 ++ (lw_privs_8))))))) from List.mem_append_right _ (List.mem_append_right _ (List.mem_append_left _ (List.mem_of_getElem? (i := 9) rfl))))
theorem ws_X6_writeLetters : Cond.selects RX6 yX6_writeLetters yX6_writeLetters ∈ AL := wpriv (q := (yX6_writeLetters, 15)) (show _ ∈ lw_privs_1 ++ (lw_privs_2 ++ (lw_privs_3 ++ (lw_privs_4 ++ (lw_privs_5 ++ (lw_privs_6 ++ (lw_privs_7 ++ (lw_privs_8))))))) from List.mem_append_right _ (List.mem_append_right _ (List.mem_append_right _ (List.mem_append_left _ (List.mem_of_getElem? (i := 0) rfl)))))
theorem ws_X6_writeSequences : Cond.selects RX6 yX6_writeSequences yX6_writeSequences ∈ AL := wpriv (q := (yX6_writeSequences, 15)) (show _ ∈ lw_privs_1 ++ (lw_privs_2 ++ (lw_privs_3 ++ (lw_privs_4 ++ (lw_privs_5 ++ (lw_privs_6 ++ (lw_privs_7 ++ (lw_privs_8))))))) from List.mem_append_right _ (List.mem_append_right _ (List.mem_append_right _ (List.mem_append_left _ (List.mem_of_getElem? (i := 7) rfl)))))
theorem ws_X6_writeStates : Cond.selects RX6 yX6_writeStates yX6_writeStates ∈ AL := wpriv (q := (yX6_writeStates, 15)) (show _ ∈ lw_privs_1 ++ (lw_privs_2 ++ (lw_privs_3 ++ (lw_privs_4 ++ (lw_privs_5 ++ (lw_privs_6 ++ (lw_privs_7 ++ (lw_privs_8))))))) from List.mem_append_right _ (List.mem_append_right _ (List.mem_append_right _ (List.mem_append_left _ (List.mem_of_getElem? (i := 13) rfl)))))
theorem ws_X6_writeStream : Cond.selects RX6 yX6_writeStream yX6_writeStream ∈ AL := wpriv (q := (yX6_writeStream, 15)) (show _ ∈ lw_privs_1 ++ (lw_privs_2 ++ (lw_privs_3 ++ (lw_privs_4 ++ (lw_privs_5 ++ (lw_privs_6 ++ (lw_privs_7 ++ (lw_privs_8))))))) from List.mem_append_right _ (List.mem_append_right _ (List.mem_append_right _ (List.mem_append_left _ (List.mem_of_getElem? (i := 6) rfl)))))
theorem ws_X6_writeTable : Cond.selects RX6 yX6_writeTable yX6_writeTable ∈ AL := wpriv (q := (yX6_writeTable, 15)) (show _ ∈ lw_privs_1 ++ (lw_privs_2 ++ (lw_privs_3 ++ (lw_privs_4 ++ (lw_privs_5 ++ (lw_privs_6 ++ (lw_privs_7 ++ (lw_privs_8))))))) from List.mem_append_right _ (List.mem_append_right _ (List.mem_append_right _ (List.mem_append_left _ (List.mem_of_getElem? (i := 8) rfl)))))
theorem ws_X6_writeWeights : Cond.selects RX6 yX6_writeWeights yX6_writeWeights ∈ AL := wpriv (q := (yX6_writeWeights, 15)) (show _ ∈ lw_privs_1 ++ (lw_privs_2 ++ (lw_privs_3 ++ (lw_privs_4 ++ (lw_privs_5 ++ (lw_privs_6 ++ (lw_privs_7 ++ (lw_privs_8))))))) from List.mem_append_right _ (List.mem_append_right _ (List.mem_append_right _ (List.mem_append_left _ (List.mem_of_getElem? (i := 5) rfl)))))
theorem ws_X7_clear : Cond.selects RX7 yX7_clear yX7_clear ∈ AL := AL_in (tb4 (List.mem_of_getElem? (i := 80) rfl)) rfl
theorem ws_X7_fail : Cond.selects RX7 yX7_fail yX7_fail ∈ AL := AL_in (tb4 (List.mem_of_getElem? (i := 102) rfl)) rfl
theorem ws_X7_note : Cond.selects RX7 yX7_note yX7_note ∈ AL := AL_in (tb5 (List.mem_of_getElem? (i := 67) rfl)) rfl
theorem ws_X7_noteRemembered : Cond.selects RX7 yX7_noteRemembered yX7_noteRemembered ∈ AL := AL_in (tb4 (List.mem_of_getElem? (i := 150) rfl)) rfl
theorem ws_X8_add : Cond.selects RX8 yX8_add yX8_add ∈ AL := AL_in (tb3 (List.mem_of_getElem? (i := 158) rfl)) rfl
theorem ws_X8_addBits : Cond.selects RX8 yX8_addBits yX8_addBits ∈ AL := AL_in (tb5 (List.mem_of_getElem? (i := 226) rfl)) rfl
theorem ws_X8_addFrom : Cond.selects RX8 yX8_addFrom yX8_addFrom ∈ AL := AL_in (tb3 (List.mem_of_getElem? (i := 192) rfl)) rfl
theorem ws_X8_addNumber : Cond.selects RX8 yX8_addNumber yX8_addNumber ∈ AL := AL_in (tb5 (List.mem_of_getElem? (i := 131) rfl)) rfl
theorem ws_X8_addSame : Cond.selects RX8 yX8_addSame yX8_addSame ∈ AL := AL_in (tb4 (List.mem_of_getElem? (i := 187) rfl)) rfl
theorem ws_X8_endBits : Cond.selects RX8 yX8_endBits yX8_endBits ∈ AL := AL_in (tb5 (List.mem_of_getElem? (i := 230) rfl)) rfl
theorem ws_X8_get : Cond.selects RX8 yX8_get yX8_get ∈ AL := AL_in (tb3 (List.mem_of_getElem? (i := 176) rfl)) rfl
theorem ws_X8_number : Cond.selects RX8 yX8_number yX8_number ∈ AL := AL_in (tb3 (List.mem_of_getElem? (i := 222) rfl)) rfl
theorem ws_X8_put : Cond.selects RX8 yX8_put yX8_put ∈ AL := AL_in (tb3 (List.mem_of_getElem? (i := 180) rfl)) rfl
theorem ws_X8_same : Cond.selects RX8 yX8_same yX8_same ∈ AL := AL_in (tb5 (List.mem_of_getElem? (i := 146) rfl)) rfl
theorem ws_X8_sumFrom : Cond.selects RX8 yX8_sumFrom yX8_sumFrom ∈ AL := AL_in (tb5 (List.mem_of_getElem? (i := 85) rfl)) rfl
theorem ws_X8_sumOfLong : Cond.selects RX8 yX8_sumOfLong yX8_sumOfLong ∈ AL := wpriv (q := (yX8_sumOfLong, 4)) (show _ ∈ lw_privs_1 ++ (lw_privs_2 ++ (lw_privs_3 ++ (lw_privs_4 ++ (lw_privs_5 ++ (lw_privs_6 ++ (lw_privs_7 ++ (lw_privs_8))))))) from List.mem_append_right _ (List.mem_append_right _ (List.mem_append_left _ (List.mem_of_getElem? (i := 7) rfl))))
theorem ws_X9_beginFrame : Cond.selects RX9 yX9_beginFrame yX9_beginFrame ∈ AL := AL_in (tb4 (List.mem_of_getElem? (i := 141) rfl)) rfl
theorem ws_X9_goOn : Cond.selects RX9 yX9_goOn yX9_goOn ∈ AL := wpriv (q := (yX9_goOn, 19)) (show _ ∈ lw_privs_1 ++ (lw_privs_2 ++ (lw_privs_3 ++ (lw_privs_4 ++ (lw_privs_5 ++ (lw_privs_6 ++ (lw_privs_7 ++ (lw_privs_8))))))) from List.mem_append_right _ (List.mem_append_left _ (List.mem_of_getElem? (i := 15) rfl)))
theorem ws_X9_lengthOf : Cond.selects RX9 yX9_lengthOf yX9_lengthOf ∈ AL := wpriv (q := (yX9_lengthOf, 19)) (show _ ∈ lw_privs_1 ++ (lw_privs_2 ++ (lw_privs_3 ++ (lw_privs_4 ++ (lw_privs_5 ++ (lw_privs_6 ++ (lw_privs_7 ++ (lw_privs_8))))))) from List.mem_append_right _ (List.mem_append_left _ (List.mem_of_getElem? (i := 14) rfl)))
theorem ws_X9_none : Cond.selects RX9 yX9_none yX9_none ∈ AL := AL_in (tb4 (List.mem_of_getElem? (i := 221) rfl)) rfl
theorem ws_X9_putCopy : Cond.selects RX9 yX9_putCopy yX9_putCopy ∈ AL := wpriv (q := (yX9_putCopy, 19)) (show _ ∈ lw_privs_1 ++ (lw_privs_2 ++ (lw_privs_3 ++ (lw_privs_4 ++ (lw_privs_5 ++ (lw_privs_6 ++ (lw_privs_7 ++ (lw_privs_8))))))) from List.mem_append_right _ (List.mem_append_right _ (List.mem_append_left _ (List.mem_of_getElem? (i := 2) rfl))))
theorem ws_X9_putLetters : Cond.selects RX9 yX9_putLetters yX9_putLetters ∈ AL := wpriv (q := (yX9_putLetters, 19)) (show _ ∈ lw_privs_1 ++ (lw_privs_2 ++ (lw_privs_3 ++ (lw_privs_4 ++ (lw_privs_5 ++ (lw_privs_6 ++ (lw_privs_7 ++ (lw_privs_8))))))) from List.mem_append_right _ (List.mem_append_right _ (List.mem_append_left _ (List.mem_of_getElem? (i := 0) rfl))))
theorem ws_X9_reaches : Cond.selects RX9 yX9_reaches yX9_reaches ∈ AL := wpriv (q := (yX9_reaches, 19)) (show _ ∈ lw_privs_1 ++ (lw_privs_2 ++ (lw_privs_3 ++ (lw_privs_4 ++ (lw_privs_5 ++ (lw_privs_6 ++ (lw_privs_7 ++ (lw_privs_8))))))) from List.mem_append_right _ (List.mem_append_right _ (List.mem_append_left _ (List.mem_of_getElem? (i := 1) rfl))))
theorem ws_X9_readHead : Cond.selects RX9 yX9_readHead yX9_readHead ∈ AL := AL_in (tb4 (List.mem_of_getElem? (i := 210) rfl)) rfl
theorem ws_X9_readTable : Cond.selects RX9 yX9_readTable yX9_readTable ∈ AL := AL_in (tb4 (List.mem_of_getElem? (i := 225) rfl)) rfl
theorem ws_X9_run : Cond.selects RX9 yX9_run yX9_run ∈ AL := AL_in (tb4 (List.mem_of_getElem? (i := 236) rfl)) rfl
theorem ws_X9_runOne : Cond.selects RX9 yX9_runOne yX9_runOne ∈ AL := wpriv (q := (yX9_runOne, 19)) (show _ ∈ lw_privs_1 ++ (lw_privs_2 ++ (lw_privs_3 ++ (lw_privs_4 ++ (lw_privs_5 ++ (lw_privs_6 ++ (lw_privs_7 ++ (lw_privs_8))))))) from List.mem_append_right _ (List.mem_append_left _ (List.mem_of_getElem? (i := 12) rfl)))
theorem ws_X9_symbolOf : Cond.selects RX9 yX9_symbolOf yX9_symbolOf ∈ AL := wpriv (q := (yX9_symbolOf, 19)) (show _ ∈ lw_privs_1 ++ (lw_privs_2 ++ (lw_privs_3 ++ (lw_privs_4 ++ (lw_privs_5 ++ (lw_privs_6 ++ (lw_privs_7 ++ (lw_privs_8))))))) from List.mem_append_right _ (List.mem_append_left _ (List.mem_of_getElem? (i := 13) rfl)))
theorem ws_X9_tooMany : Cond.selects RX9 yX9_tooMany yX9_tooMany ∈ AL := wpriv (q := (yX9_tooMany, 19)) (show _ ∈ lw_privs_1 ++ (lw_privs_2 ++ (lw_privs_3 ++ (lw_privs_4 ++ (lw_privs_5 ++ (lw_privs_6 ++ (lw_privs_7 ++ (lw_privs_8))))))) from List.mem_append_right _ (List.mem_append_right _ (List.mem_append_left _ (List.mem_of_getElem? (i := 3) rfl))))
theorem ws_X9_wrong : Cond.selects RX9 yX9_wrong yX9_wrong ∈ AL := wpriv (q := (yX9_wrong, 19)) (show _ ∈ lw_privs_1 ++ (lw_privs_2 ++ (lw_privs_3 ++ (lw_privs_4 ++ (lw_privs_5 ++ (lw_privs_6 ++ (lw_privs_7 ++ (lw_privs_8))))))) from List.mem_append_right _ (List.mem_append_left _ (List.mem_of_getElem? (i := 11) rfl)))
theorem wt_J7_fill_53178 : Cond.static yJ7_fill_53178 ∈ AL := AL_in (tb4 (List.mem_of_getElem? (i := 49) rfl)) rfl
theorem wt_X12_baseOf : Cond.static yX12_baseOf ∈ AL := AL_in (tb5 (List.mem_of_getElem? (i := 16) rfl)) rfl
theorem wt_X12_extraOf : Cond.static yX12_extraOf ∈ AL := AL_in (tb5 (List.mem_of_getElem? (i := 23) rfl)) rfl
theorem wt_X12_logOf : Cond.static yX12_logOf ∈ AL := AL_in (tb2 (List.mem_of_getElem? (i := 47) rfl)) rfl
theorem wt_X12_offsetOf : Cond.static yX12_offsetOf ∈ AL := AL_in (tb5 (List.mem_of_getElem? (i := 41) rfl)) rfl
theorem wt_X12_remember : Cond.static yX12_remember ∈ AL := AL_in (tb5 (List.mem_of_getElem? (i := 63) rfl)) rfl
theorem wt_X12_rememberFirst : Cond.static yX12_rememberFirst ∈ AL := AL_in (tb3 (List.mem_of_getElem? (i := 218) rfl)) rfl
theorem wt_X12_round : Cond.static yX12_round ∈ AL := AL_in (tb5 (List.mem_of_getElem? (i := 96) rfl)) rfl
theorem wt_X12_turn : Cond.static yX12_turn ∈ AL := AL_in (tb5 (List.mem_of_getElem? (i := 100) rfl)) rfl
theorem wt_X12_whichOf : Cond.static yX12_whichOf ∈ AL := AL_in (tb5 (List.mem_of_getElem? (i := 44) rfl)) rfl
theorem wt_X13_copyBase : Cond.static yX13_copyBase ∈ AL := AL_in (tb8 (List.mem_of_getElem? (i := 59) rfl)) rfl
theorem wt_X13_copyBits : Cond.static yX13_copyBits ∈ AL := AL_in (tb8 (List.mem_of_getElem? (i := 62) rfl)) rfl
theorem wt_X13_copySymbol : Cond.static yX13_copySymbol ∈ AL := AL_in (tb8 (List.mem_of_getElem? (i := 175) rfl)) rfl
theorem wt_X13_eight : Cond.static yX13_eight ∈ AL := AL_in (tb7 (List.mem_of_getElem? (i := 144) rfl)) rfl
theorem wt_X13_greatest : Cond.static yX13_greatest ∈ AL := AL_in (tb7 (List.mem_of_getElem? (i := 208) rfl)) rfl
theorem wt_X13_letterBase : Cond.static yX13_letterBase ∈ AL := AL_in (tb8 (List.mem_of_getElem? (i := 65) rfl)) rfl
theorem wt_X13_letterBits : Cond.static yX13_letterBits ∈ AL := AL_in (tb8 (List.mem_of_getElem? (i := 68) rfl)) rfl
theorem wt_X13_letterSymbol : Cond.static yX13_letterSymbol ∈ AL := AL_in (tb8 (List.mem_of_getElem? (i := 169) rfl)) rfl
theorem wt_X13_log : Cond.static yX13_log ∈ AL := AL_in (tb7 (List.mem_of_getElem? (i := 189) rfl)) rfl
theorem wt_X13_logLong : Cond.static yX13_logLong ∈ AL := AL_in (tb8 (List.mem_of_getElem? (i := 172) rfl)) rfl
theorem wt_X13_meant : Cond.static yX13_meant ∈ AL := AL_in (tb8 (List.mem_of_getElem? (i := 75) rfl)) rfl
theorem wt_X13_mostLog : Cond.static yX13_mostLog ∈ AL := AL_in (tb7 (List.mem_of_getElem? (i := 211) rfl)) rfl
theorem wt_X13_round : Cond.static yX13_round ∈ AL := AL_in (tb7 (List.mem_of_getElem? (i := 147) rfl)) rfl
theorem wt_X13_sumOf : Cond.static yX13_sumOf ∈ AL := AL_in (tb7 (List.mem_of_getElem? (i := 137) rfl)) rfl
theorem wt_X13_turn : Cond.static yX13_turn ∈ AL := AL_in (tb7 (List.mem_of_getElem? (i := 150) rfl)) rfl
theorem wx_RL_10 : Cond.classLink RL 10 RX13 ∈ AL := AL_in (tb6 (List.mem_of_getElem? (i := 93) rfl)) rfl
theorem wx_RL_7 : Cond.classLink RL 7 RX12 ∈ AL := AL_in (tb1 (List.mem_of_getElem? (i := 18) rfl)) rfl
theorem wx_RX11_15 : Cond.classLink RX11 15 RX10 ∈ AL := AL_in (tb1 (List.mem_of_getElem? (i := 65) rfl)) rfl
theorem wx_RX11_22 : Cond.classLink RX11 22 RX0 ∈ AL := AL_in (tb1 (List.mem_of_getElem? (i := 104) rfl)) rfl
theorem wx_RX12_24 : Cond.classLink RX12 24 RX11 ∈ AL := AL_in (tb1 (List.mem_of_getElem? (i := 59) rfl)) rfl
theorem wx_RX12_31 : Cond.classLink RX12 31 RX7 ∈ AL := AL_in (tb1 (List.mem_of_getElem? (i := 158) rfl)) rfl
theorem wx_RX12_38 : Cond.classLink RX12 38 RX2 ∈ AL := AL_in (tb1 (List.mem_of_getElem? (i := 183) rfl)) rfl
theorem wx_RX12_49 : Cond.classLink RX12 49 RX10 ∈ AL := AL_in (tb2 (List.mem_of_getElem? (i := 11) rfl)) rfl
theorem wx_RX12_55 : Cond.classLink RX12 55 RX5 ∈ AL := AL_in (tb2 (List.mem_of_getElem? (i := 49) rfl)) rfl
theorem wx_RX12_64 : Cond.classLink RX12 64 RX6 ∈ AL := AL_in (tb3 (List.mem_of_getElem? (i := 10) rfl)) rfl
theorem wx_RX12_9 : Cond.classLink RX12 9 RX8 ∈ AL := AL_in (tb1 (List.mem_of_getElem? (i := 26) rfl)) rfl
theorem wx_RX2_15 : Cond.classLink RX2 15 RX10 ∈ AL := AL_in (tb1 (List.mem_of_getElem? (i := 190) rfl)) rfl
theorem wx_RX2_21 : Cond.classLink RX2 21 RX1 ∈ AL := AL_in (tb1 (List.mem_of_getElem? (i := 192) rfl)) rfl
theorem wx_RX2_28 : Cond.classLink RX2 28 RX8 ∈ AL := AL_in (tb1 (List.mem_of_getElem? (i := 216) rfl)) rfl
theorem wx_RX3_9 : Cond.classLink RX3 9 RX8 ∈ AL := AL_in (tb3 (List.mem_of_getElem? (i := 22) rfl)) rfl
theorem wx_RX4_20 : Cond.classLink RX4 20 RX1 ∈ AL := AL_in (tb2 (List.mem_of_getElem? (i := 65) rfl)) rfl
theorem wx_RX4_27 : Cond.classLink RX4 27 RX0 ∈ AL := AL_in (tb2 (List.mem_of_getElem? (i := 67) rfl)) rfl
theorem wx_RX4_9 : Cond.classLink RX4 9 RX8 ∈ AL := AL_in (tb2 (List.mem_of_getElem? (i := 63) rfl)) rfl
theorem wx_RX5_27 : Cond.classLink RX5 27 RX4 ∈ AL := AL_in (tb2 (List.mem_of_getElem? (i := 57) rfl)) rfl
theorem wx_RX5_36 : Cond.classLink RX5 36 RX9 ∈ AL := AL_in (tb2 (List.mem_of_getElem? (i := 114) rfl)) rfl
theorem wx_RX5_9 : Cond.classLink RX5 9 RX8 ∈ AL := AL_in (tb2 (List.mem_of_getElem? (i := 55) rfl)) rfl
theorem wx_RX6_18 : Cond.classLink RX6 18 RX8 ∈ AL := AL_in (tb3 (List.mem_of_getElem? (i := 66) rfl)) rfl
theorem wx_RX6_27 : Cond.classLink RX6 27 RX1 ∈ AL := AL_in (tb3 (List.mem_of_getElem? (i := 68) rfl)) rfl
theorem wx_RX6_34 : Cond.classLink RX6 34 RX10 ∈ AL := AL_in (tb3 (List.mem_of_getElem? (i := 70) rfl)) rfl
theorem wx_RX6_9 : Cond.classLink RX6 9 RX3 ∈ AL := AL_in (tb3 (List.mem_of_getElem? (i := 16) rfl)) rfl
theorem wx_RX9_31 : Cond.classLink RX9 31 RX0 ∈ AL := AL_in (tb2 (List.mem_of_getElem? (i := 121) rfl)) rfl
theorem wx_RX9_38 : Cond.classLink RX9 38 RX8 ∈ AL := AL_in (tb2 (List.mem_of_getElem? (i := 123) rfl)) rfl
theorem wx_RX9_9 : Cond.classLink RX9 9 RX10 ∈ AL := AL_in (tb2 (List.mem_of_getElem? (i := 120) rfl)) rfl
set_option maxRecDepth 20000 in
theorem inX0 : ∀ w ∈ u_ws RX0 TX0 4, w ∈ AL := by
  show ∀ w ∈ [Cond.lays RX0 "TabledFrames$Back" "bytes" "[B", Cond.lays RX0 "TabledFrames$Back" "first" "I", Cond.lays RX0 "TabledFrames$Back" "left" "I", Cond.lays RX0 "TabledFrames$Back" "lacking" "Z"], w ∈ AL
  exact List.forall_mem_cons.mpr ⟨AL_in (tb1 (List.mem_of_getElem? (i := 119) rfl)) rfl, List.forall_mem_cons.mpr ⟨AL_in (tb1 (List.mem_of_getElem? (i := 121) rfl)) rfl, List.forall_mem_cons.mpr ⟨AL_in (tb1 (List.mem_of_getElem? (i := 123) rfl)) rfl, List.forall_mem_cons.mpr ⟨AL_in (tb1 (List.mem_of_getElem? (i := 125) rfl)) rfl, fun _ h => absurd h List.not_mem_nil⟩⟩⟩⟩
theorem fd_0_0 : FD 0 0 RX0 "bytes" "[B" (.array .byte) false := ⟨TX0, 4, rfl, inX0, tyX0_ok, nmX0, by decide, rfl, rfl⟩
theorem fd_0_1 : FD 0 1 RX0 "first" "I" (.int) false := ⟨TX0, 4, rfl, inX0, tyX0_ok, nmX0, by decide, rfl, rfl⟩
theorem fd_0_2 : FD 0 2 RX0 "left" "I" (.int) false := ⟨TX0, 4, rfl, inX0, tyX0_ok, nmX0, by decide, rfl, rfl⟩
theorem fd_0_3 : FD 0 3 RX0 "lacking" "Z" (.boolean) false := ⟨TX0, 4, rfl, inX0, tyX0_ok, nmX0, by decide, rfl, rfl⟩
theorem cd_0 : CD 0 4 RX0 := ⟨TX0, rfl, inX0, tyX0_ok, AL_in (tb1 (List.mem_of_getElem? (i := 105) rfl)) rfl, AL_in (tb1 (List.mem_of_getElem? (i := 6) rfl)) rfl⟩
set_option maxRecDepth 20000 in
theorem inX1 : ∀ w ∈ u_ws RX1 TX1 4, w ∈ AL := by
  show ∀ w ∈ [Cond.lays RX1 "TabledFrames$Code" "longest" "I", Cond.laysFinal RX1 "TabledFrames$Code" "lengths" "[I", Cond.laysFinal RX1 "TabledFrames$Code" "words" "[I", Cond.laysFinal RX1 "TabledFrames$Code" "found" "[I"], w ∈ AL
  exact List.forall_mem_cons.mpr ⟨AL_in (tb1 (List.mem_of_getElem? (i := 207) rfl)) rfl, List.forall_mem_cons.mpr ⟨AL_in (tb1 (List.mem_of_getElem? (i := 209) rfl)) rfl, List.forall_mem_cons.mpr ⟨AL_in (tb1 (List.mem_of_getElem? (i := 211) rfl)) rfl, List.forall_mem_cons.mpr ⟨AL_in (tb1 (List.mem_of_getElem? (i := 213) rfl)) rfl, fun _ h => absurd h List.not_mem_nil⟩⟩⟩⟩
theorem fd_1_0 : FD 1 0 RX1 "longest" "I" (.int) false := ⟨TX1, 4, rfl, inX1, tyX1_ok, nmX1, by decide, rfl, rfl⟩
theorem fd_1_1 : FD 1 1 RX1 "lengths" "[I" (.array .int) true := ⟨TX1, 4, rfl, inX1, tyX1_ok, nmX1, by decide, rfl, rfl⟩
theorem fd_1_2 : FD 1 2 RX1 "words" "[I" (.array .int) true := ⟨TX1, 4, rfl, inX1, tyX1_ok, nmX1, by decide, rfl, rfl⟩
theorem fd_1_3 : FD 1 3 RX1 "found" "[I" (.array .int) true := ⟨TX1, 4, rfl, inX1, tyX1_ok, nmX1, by decide, rfl, rfl⟩
theorem cd_1 : CD 1 4 RX1 := ⟨TX1, rfl, inX1, tyX1_ok, AL_in (tb1 (List.mem_of_getElem? (i := 193) rfl)) rfl, AL_in (tb1 (List.mem_of_getElem? (i := 9) rfl)) rfl⟩
set_option maxRecDepth 20000 in
theorem inX2 : ∀ w ∈ u_ws RX2 TX2 7, w ∈ AL := by
  show ∀ w ∈ [Cond.lays RX2 "TabledFrames$Dictionary" "number" "I", Cond.lays RX2 "TabledFrames$Dictionary" "tabled" "Z", Cond.laysFinal RX2 "TabledFrames$Dictionary" "remembered" "[I", Cond.laysFinal RX2 "TabledFrames$Dictionary" "tables" "[LTabledFrames$Table;", Cond.laysFinal RX2 "TabledFrames$Dictionary" "code" "LTabledFrames$Code;", Cond.laysFinal RX2 "TabledFrames$Dictionary" "content" "LTabledFrames$Row;", Cond.lays RX2 "TabledFrames$Dictionary" "contentFrom" "I"], w ∈ AL
  exact List.forall_mem_cons.mpr ⟨AL_in (tb1 (List.mem_of_getElem? (i := 236) rfl)) rfl, List.forall_mem_cons.mpr ⟨AL_in (tb1 (List.mem_of_getElem? (i := 238) rfl)) rfl, List.forall_mem_cons.mpr ⟨AL_in (tb2 (List.mem_of_getElem? (i := 0) rfl)) rfl, List.forall_mem_cons.mpr ⟨AL_in (tb2 (List.mem_of_getElem? (i := 2) rfl)) rfl, List.forall_mem_cons.mpr ⟨AL_in (tb2 (List.mem_of_getElem? (i := 4) rfl)) rfl, List.forall_mem_cons.mpr ⟨AL_in (tb2 (List.mem_of_getElem? (i := 6) rfl)) rfl, List.forall_mem_cons.mpr ⟨AL_in (tb2 (List.mem_of_getElem? (i := 8) rfl)) rfl, fun _ h => absurd h List.not_mem_nil⟩⟩⟩⟩⟩⟩⟩
theorem fd_2_0 : FD 2 0 RX2 "number" "I" (.int) false := ⟨TX2, 7, rfl, inX2, tyX2_ok, nmX2, by decide, rfl, rfl⟩
theorem fd_2_1 : FD 2 1 RX2 "tabled" "Z" (.boolean) false := ⟨TX2, 7, rfl, inX2, tyX2_ok, nmX2, by decide, rfl, rfl⟩
theorem fd_2_2 : FD 2 2 RX2 "remembered" "[I" (.array .int) true := ⟨TX2, 7, rfl, inX2, tyX2_ok, nmX2, by decide, rfl, rfl⟩
theorem fd_2_3 : FD 2 3 RX2 "tables" "[LTabledFrames$Table;" (.array (.object "TabledFrames$Table")) true := ⟨TX2, 7, rfl, inX2, tyX2_ok, nmX2, by decide, rfl, rfl⟩
theorem fd_2_4 : FD 2 4 RX2 "code" "LTabledFrames$Code;" (.object "TabledFrames$Code") true := ⟨TX2, 7, rfl, inX2, tyX2_ok, nmX2, by decide, rfl, rfl⟩
theorem fd_2_5 : FD 2 5 RX2 "content" "LTabledFrames$Row;" (.object "TabledFrames$Row") true := ⟨TX2, 7, rfl, inX2, tyX2_ok, nmX2, by decide, rfl, rfl⟩
theorem fd_2_6 : FD 2 6 RX2 "contentFrom" "I" (.int) false := ⟨TX2, 7, rfl, inX2, tyX2_ok, nmX2, by decide, rfl, rfl⟩
theorem cd_2 : CD 2 7 RX2 := ⟨TX2, rfl, inX2, tyX2_ok, AL_in (tb1 (List.mem_of_getElem? (i := 185) rfl)) rfl, AL_in (tb1 (List.mem_of_getElem? (i := 8) rfl)) rfl⟩
set_option maxRecDepth 20000 in
theorem inX3 : ∀ w ∈ u_ws RX3 TX3 12, w ∈ AL := by
  show ∀ w ∈ [Cond.laysFinal RX3 "TabledFrames$Finder" "letters" "LTabledFrames$Row;", Cond.lays RX3 "TabledFrames$Finder" "found" "I", Cond.laysFinal RX3 "TabledFrames$Finder" "counts" "[I", Cond.laysFinal RX3 "TabledFrames$Finder" "copies" "[I", Cond.laysFinal RX3 "TabledFrames$Finder" "offsets" "[I", Cond.laysFinal RX3 "TabledFrames$Finder" "all" "LTabledFrames$Row;", Cond.laysFinal RX3 "TabledFrames$Finder" "heads" "[I", Cond.laysFinal RX3 "TabledFrames$Finder" "links" "[I", Cond.lays RX3 "TabledFrames$Finder" "contentCount" "I", Cond.lays RX3 "TabledFrames$Finder" "linked" "I", Cond.lays RX3 "TabledFrames$Finder" "bestLength" "I", Cond.lays RX3 "TabledFrames$Finder" "bestPlace" "I"], w ∈ AL
  exact List.forall_mem_cons.mpr ⟨AL_in (tb3 (List.mem_of_getElem? (i := 41) rfl)) rfl, List.forall_mem_cons.mpr ⟨AL_in (tb3 (List.mem_of_getElem? (i := 43) rfl)) rfl, List.forall_mem_cons.mpr ⟨AL_in (tb3 (List.mem_of_getElem? (i := 45) rfl)) rfl, List.forall_mem_cons.mpr ⟨AL_in (tb3 (List.mem_of_getElem? (i := 47) rfl)) rfl, List.forall_mem_cons.mpr ⟨AL_in (tb3 (List.mem_of_getElem? (i := 49) rfl)) rfl, List.forall_mem_cons.mpr ⟨AL_in (tb3 (List.mem_of_getElem? (i := 51) rfl)) rfl, List.forall_mem_cons.mpr ⟨AL_in (tb3 (List.mem_of_getElem? (i := 53) rfl)) rfl, List.forall_mem_cons.mpr ⟨AL_in (tb3 (List.mem_of_getElem? (i := 55) rfl)) rfl, List.forall_mem_cons.mpr ⟨AL_in (tb3 (List.mem_of_getElem? (i := 57) rfl)) rfl, List.forall_mem_cons.mpr ⟨AL_in (tb3 (List.mem_of_getElem? (i := 59) rfl)) rfl, List.forall_mem_cons.mpr ⟨AL_in (tb3 (List.mem_of_getElem? (i := 61) rfl)) rfl, List.forall_mem_cons.mpr ⟨AL_in (tb3 (List.mem_of_getElem? (i := 63) rfl)) rfl, fun _ h => absurd h List.not_mem_nil⟩⟩⟩⟩⟩⟩⟩⟩⟩⟩⟩⟩
theorem fd_3_0 : FD 3 0 RX3 "letters" "LTabledFrames$Row;" (.object "TabledFrames$Row") true := ⟨TX3, 12, rfl, inX3, tyX3_ok, nmX3, by decide, rfl, rfl⟩
theorem fd_3_1 : FD 3 1 RX3 "found" "I" (.int) false := ⟨TX3, 12, rfl, inX3, tyX3_ok, nmX3, by decide, rfl, rfl⟩
theorem fd_3_2 : FD 3 2 RX3 "counts" "[I" (.array .int) true := ⟨TX3, 12, rfl, inX3, tyX3_ok, nmX3, by decide, rfl, rfl⟩
theorem fd_3_3 : FD 3 3 RX3 "copies" "[I" (.array .int) true := ⟨TX3, 12, rfl, inX3, tyX3_ok, nmX3, by decide, rfl, rfl⟩
theorem fd_3_4 : FD 3 4 RX3 "offsets" "[I" (.array .int) true := ⟨TX3, 12, rfl, inX3, tyX3_ok, nmX3, by decide, rfl, rfl⟩
theorem fd_3_5 : FD 3 5 RX3 "all" "LTabledFrames$Row;" (.object "TabledFrames$Row") true := ⟨TX3, 12, rfl, inX3, tyX3_ok, nmX3, by decide, rfl, rfl⟩
theorem fd_3_6 : FD 3 6 RX3 "heads" "[I" (.array .int) true := ⟨TX3, 12, rfl, inX3, tyX3_ok, nmX3, by decide, rfl, rfl⟩
theorem fd_3_7 : FD 3 7 RX3 "links" "[I" (.array .int) true := ⟨TX3, 12, rfl, inX3, tyX3_ok, nmX3, by decide, rfl, rfl⟩
theorem fd_3_8 : FD 3 8 RX3 "contentCount" "I" (.int) false := ⟨TX3, 12, rfl, inX3, tyX3_ok, nmX3, by decide, rfl, rfl⟩
theorem fd_3_9 : FD 3 9 RX3 "linked" "I" (.int) false := ⟨TX3, 12, rfl, inX3, tyX3_ok, nmX3, by decide, rfl, rfl⟩
theorem fd_3_10 : FD 3 10 RX3 "bestLength" "I" (.int) false := ⟨TX3, 12, rfl, inX3, tyX3_ok, nmX3, by decide, rfl, rfl⟩
theorem fd_3_11 : FD 3 11 RX3 "bestPlace" "I" (.int) false := ⟨TX3, 12, rfl, inX3, tyX3_ok, nmX3, by decide, rfl, rfl⟩
theorem cd_3 : CD 3 12 RX3 := ⟨TX3, rfl, inX3, tyX3_ok, AL_in (tb3 (List.mem_of_getElem? (i := 17) rfl)) rfl, AL_in (tb1 (List.mem_of_getElem? (i := 15) rfl)) rfl⟩
set_option maxRecDepth 20000 in
theorem inX4 : ∀ w ∈ u_ws RX4 TX4 13, w ∈ AL := by
  show ∀ w ∈ [Cond.laysFinal RX4 "TabledFrames$Letters" "row" "LTabledFrames$Row;", Cond.lays RX4 "TabledFrames$Letters" "latest" "LTabledFrames$Code;", Cond.lays RX4 "TabledFrames$Letters" "known" "Z", Cond.lays RX4 "TabledFrames$Letters" "end" "I", Cond.laysFinal RX4 "TabledFrames$Letters" "own" "LTabledFrames$Code;", Cond.laysFinal RX4 "TabledFrames$Letters" "report" "LTabledFrames$Report;", Cond.laysFinal RX4 "TabledFrames$Letters" "weights" "LTabledFrames$Weights;", Cond.laysFinal RX4 "TabledFrames$Letters" "back" "LTabledFrames$Back;", Cond.lays RX4 "TabledFrames$Letters" "start" "I", Cond.lays RX4 "TabledFrames$Letters" "at" "I", Cond.lays RX4 "TabledFrames$Letters" "kind" "I", Cond.lays RX4 "TabledFrames$Letters" "form" "I", Cond.lays RX4 "TabledFrames$Letters" "count" "I"], w ∈ AL
  exact List.forall_mem_cons.mpr ⟨AL_in (tb2 (List.mem_of_getElem? (i := 87) rfl)) rfl, List.forall_mem_cons.mpr ⟨AL_in (tb2 (List.mem_of_getElem? (i := 89) rfl)) rfl, List.forall_mem_cons.mpr ⟨AL_in (tb2 (List.mem_of_getElem? (i := 91) rfl)) rfl, List.forall_mem_cons.mpr ⟨AL_in (tb2 (List.mem_of_getElem? (i := 93) rfl)) rfl, List.forall_mem_cons.mpr ⟨AL_in (tb2 (List.mem_of_getElem? (i := 95) rfl)) rfl, List.forall_mem_cons.mpr ⟨AL_in (tb2 (List.mem_of_getElem? (i := 97) rfl)) rfl, List.forall_mem_cons.mpr ⟨AL_in (tb2 (List.mem_of_getElem? (i := 99) rfl)) rfl, List.forall_mem_cons.mpr ⟨AL_in (tb2 (List.mem_of_getElem? (i := 101) rfl)) rfl, List.forall_mem_cons.mpr ⟨AL_in (tb2 (List.mem_of_getElem? (i := 103) rfl)) rfl, List.forall_mem_cons.mpr ⟨AL_in (tb2 (List.mem_of_getElem? (i := 105) rfl)) rfl, List.forall_mem_cons.mpr ⟨AL_in (tb2 (List.mem_of_getElem? (i := 107) rfl)) rfl, List.forall_mem_cons.mpr ⟨AL_in (tb2 (List.mem_of_getElem? (i := 109) rfl)) rfl, List.forall_mem_cons.mpr ⟨AL_in (tb2 (List.mem_of_getElem? (i := 111) rfl)) rfl, fun _ h => absurd h List.not_mem_nil⟩⟩⟩⟩⟩⟩⟩⟩⟩⟩⟩⟩⟩
theorem fd_4_0 : FD 4 0 RX4 "row" "LTabledFrames$Row;" (.object "TabledFrames$Row") true := ⟨TX4, 13, rfl, inX4, tyX4_ok, nmX4, by decide, rfl, rfl⟩
theorem fd_4_1 : FD 4 1 RX4 "latest" "LTabledFrames$Code;" (.object "TabledFrames$Code") false := ⟨TX4, 13, rfl, inX4, tyX4_ok, nmX4, by decide, rfl, rfl⟩
theorem fd_4_2 : FD 4 2 RX4 "known" "Z" (.boolean) false := ⟨TX4, 13, rfl, inX4, tyX4_ok, nmX4, by decide, rfl, rfl⟩
theorem fd_4_3 : FD 4 3 RX4 "end" "I" (.int) false := ⟨TX4, 13, rfl, inX4, tyX4_ok, nmX4, by decide, rfl, rfl⟩
theorem fd_4_4 : FD 4 4 RX4 "own" "LTabledFrames$Code;" (.object "TabledFrames$Code") true := ⟨TX4, 13, rfl, inX4, tyX4_ok, nmX4, by decide, rfl, rfl⟩
theorem fd_4_5 : FD 4 5 RX4 "report" "LTabledFrames$Report;" (.object "TabledFrames$Report") true := ⟨TX4, 13, rfl, inX4, tyX4_ok, nmX4, by decide, rfl, rfl⟩
theorem fd_4_6 : FD 4 6 RX4 "weights" "LTabledFrames$Weights;" (.object "TabledFrames$Weights") true := ⟨TX4, 13, rfl, inX4, tyX4_ok, nmX4, by decide, rfl, rfl⟩
theorem fd_4_7 : FD 4 7 RX4 "back" "LTabledFrames$Back;" (.object "TabledFrames$Back") true := ⟨TX4, 13, rfl, inX4, tyX4_ok, nmX4, by decide, rfl, rfl⟩
theorem fd_4_8 : FD 4 8 RX4 "start" "I" (.int) false := ⟨TX4, 13, rfl, inX4, tyX4_ok, nmX4, by decide, rfl, rfl⟩
theorem fd_4_9 : FD 4 9 RX4 "at" "I" (.int) false := ⟨TX4, 13, rfl, inX4, tyX4_ok, nmX4, by decide, rfl, rfl⟩
theorem fd_4_10 : FD 4 10 RX4 "kind" "I" (.int) false := ⟨TX4, 13, rfl, inX4, tyX4_ok, nmX4, by decide, rfl, rfl⟩
theorem fd_4_11 : FD 4 11 RX4 "form" "I" (.int) false := ⟨TX4, 13, rfl, inX4, tyX4_ok, nmX4, by decide, rfl, rfl⟩
theorem fd_4_12 : FD 4 12 RX4 "count" "I" (.int) false := ⟨TX4, 13, rfl, inX4, tyX4_ok, nmX4, by decide, rfl, rfl⟩
theorem cd_4 : CD 4 13 RX4 := ⟨TX4, rfl, inX4, tyX4_ok, AL_in (tb2 (List.mem_of_getElem? (i := 58) rfl)) rfl, AL_in (tb1 (List.mem_of_getElem? (i := 12) rfl)) rfl⟩
set_option maxRecDepth 20000 in
theorem inX5 : ∀ w ∈ u_ws RX5 TX5 19, w ∈ AL := by
  show ∀ w ∈ [Cond.laysFinal RX5 "TabledFrames$Opener" "letters" "LTabledFrames$Letters;", Cond.laysFinal RX5 "TabledFrames$Opener" "sequences" "LTabledFrames$Sequences;", Cond.laysFinal RX5 "TabledFrames$Opener" "report" "LTabledFrames$Report;", Cond.lays RX5 "TabledFrames$Opener" "row" "LTabledFrames$Row;", Cond.lays RX5 "TabledFrames$Opener" "made" "LTabledFrames$Row;", Cond.lays RX5 "TabledFrames$Opener" "kept" "LTabledFrames$Dictionary;", Cond.lays RX5 "TabledFrames$Opener" "counting" "LTabledFrames$Dictionary;", Cond.lays RX5 "TabledFrames$Opener" "most" "J", Cond.lays RX5 "TabledFrames$Opener" "at" "I", Cond.lays RX5 "TabledFrames$Opener" "span" "J", Cond.lays RX5 "TabledFrames$Opener" "size" "J", Cond.lays RX5 "TabledFrames$Opener" "sized" "Z", Cond.lays RX5 "TabledFrames$Opener" "sizePlace" "I", Cond.lays RX5 "TabledFrames$Opener" "summed" "Z", Cond.lays RX5 "TabledFrames$Opener" "blockFrom" "I", Cond.lays RX5 "TabledFrames$Opener" "blockKind" "I", Cond.lays RX5 "TabledFrames$Opener" "blockSize" "I", Cond.lays RX5 "TabledFrames$Opener" "lastBlock" "Z", Cond.lays RX5 "TabledFrames$Opener" "passed" "Z"], w ∈ AL
  exact List.forall_mem_cons.mpr ⟨AL_in (tb2 (List.mem_of_getElem? (i := 211) rfl)) rfl, List.forall_mem_cons.mpr ⟨AL_in (tb2 (List.mem_of_getElem? (i := 213) rfl)) rfl, List.forall_mem_cons.mpr ⟨AL_in (tb2 (List.mem_of_getElem? (i := 215) rfl)) rfl, List.forall_mem_cons.mpr ⟨AL_in (tb2 (List.mem_of_getElem? (i := 217) rfl)) rfl, List.forall_mem_cons.mpr ⟨AL_in (tb2 (List.mem_of_getElem? (i := 219) rfl)) rfl, List.forall_mem_cons.mpr ⟨AL_in (tb2 (List.mem_of_getElem? (i := 221) rfl)) rfl, List.forall_mem_cons.mpr ⟨AL_in (tb2 (List.mem_of_getElem? (i := 223) rfl)) rfl, List.forall_mem_cons.mpr ⟨AL_in (tb2 (List.mem_of_getElem? (i := 225) rfl)) rfl, List.forall_mem_cons.mpr ⟨AL_in (tb2 (List.mem_of_getElem? (i := 227) rfl)) rfl, List.forall_mem_cons.mpr ⟨AL_in (tb2 (List.mem_of_getElem? (i := 229) rfl)) rfl, List.forall_mem_cons.mpr ⟨AL_in (tb2 (List.mem_of_getElem? (i := 231) rfl)) rfl, List.forall_mem_cons.mpr ⟨AL_in (tb2 (List.mem_of_getElem? (i := 233) rfl)) rfl, List.forall_mem_cons.mpr ⟨AL_in (tb2 (List.mem_of_getElem? (i := 235) rfl)) rfl, List.forall_mem_cons.mpr ⟨AL_in (tb2 (List.mem_of_getElem? (i := 237) rfl)) rfl, List.forall_mem_cons.mpr ⟨AL_in (tb2 (List.mem_of_getElem? (i := 239) rfl)) rfl, List.forall_mem_cons.mpr ⟨AL_in (tb3 (List.mem_of_getElem? (i := 1) rfl)) rfl, List.forall_mem_cons.mpr ⟨AL_in (tb3 (List.mem_of_getElem? (i := 3) rfl)) rfl, List.forall_mem_cons.mpr ⟨AL_in (tb3 (List.mem_of_getElem? (i := 5) rfl)) rfl, List.forall_mem_cons.mpr ⟨AL_in (tb3 (List.mem_of_getElem? (i := 7) rfl)) rfl, fun _ h => absurd h List.not_mem_nil⟩⟩⟩⟩⟩⟩⟩⟩⟩⟩⟩⟩⟩⟩⟩⟩⟩⟩⟩
theorem fd_5_0 : FD 5 0 RX5 "letters" "LTabledFrames$Letters;" (.object "TabledFrames$Letters") true := ⟨TX5, 19, rfl, inX5, tyX5_ok, nmX5, by decide, rfl, rfl⟩
theorem fd_5_1 : FD 5 1 RX5 "sequences" "LTabledFrames$Sequences;" (.object "TabledFrames$Sequences") true := ⟨TX5, 19, rfl, inX5, tyX5_ok, nmX5, by decide, rfl, rfl⟩
theorem fd_5_2 : FD 5 2 RX5 "report" "LTabledFrames$Report;" (.object "TabledFrames$Report") true := ⟨TX5, 19, rfl, inX5, tyX5_ok, nmX5, by decide, rfl, rfl⟩
theorem fd_5_3 : FD 5 3 RX5 "row" "LTabledFrames$Row;" (.object "TabledFrames$Row") false := ⟨TX5, 19, rfl, inX5, tyX5_ok, nmX5, by decide, rfl, rfl⟩
theorem fd_5_4 : FD 5 4 RX5 "made" "LTabledFrames$Row;" (.object "TabledFrames$Row") false := ⟨TX5, 19, rfl, inX5, tyX5_ok, nmX5, by decide, rfl, rfl⟩
theorem fd_5_5 : FD 5 5 RX5 "kept" "LTabledFrames$Dictionary;" (.object "TabledFrames$Dictionary") false := ⟨TX5, 19, rfl, inX5, tyX5_ok, nmX5, by decide, rfl, rfl⟩
theorem fd_5_6 : FD 5 6 RX5 "counting" "LTabledFrames$Dictionary;" (.object "TabledFrames$Dictionary") false := ⟨TX5, 19, rfl, inX5, tyX5_ok, nmX5, by decide, rfl, rfl⟩
theorem fd_5_7 : FD 5 7 RX5 "most" "J" (.long) false := ⟨TX5, 19, rfl, inX5, tyX5_ok, nmX5, by decide, rfl, rfl⟩
theorem fd_5_8 : FD 5 8 RX5 "at" "I" (.int) false := ⟨TX5, 19, rfl, inX5, tyX5_ok, nmX5, by decide, rfl, rfl⟩
theorem fd_5_9 : FD 5 9 RX5 "span" "J" (.long) false := ⟨TX5, 19, rfl, inX5, tyX5_ok, nmX5, by decide, rfl, rfl⟩
theorem fd_5_10 : FD 5 10 RX5 "size" "J" (.long) false := ⟨TX5, 19, rfl, inX5, tyX5_ok, nmX5, by decide, rfl, rfl⟩
theorem fd_5_11 : FD 5 11 RX5 "sized" "Z" (.boolean) false := ⟨TX5, 19, rfl, inX5, tyX5_ok, nmX5, by decide, rfl, rfl⟩
theorem fd_5_12 : FD 5 12 RX5 "sizePlace" "I" (.int) false := ⟨TX5, 19, rfl, inX5, tyX5_ok, nmX5, by decide, rfl, rfl⟩
theorem fd_5_13 : FD 5 13 RX5 "summed" "Z" (.boolean) false := ⟨TX5, 19, rfl, inX5, tyX5_ok, nmX5, by decide, rfl, rfl⟩
theorem fd_5_14 : FD 5 14 RX5 "blockFrom" "I" (.int) false := ⟨TX5, 19, rfl, inX5, tyX5_ok, nmX5, by decide, rfl, rfl⟩
theorem fd_5_15 : FD 5 15 RX5 "blockKind" "I" (.int) false := ⟨TX5, 19, rfl, inX5, tyX5_ok, nmX5, by decide, rfl, rfl⟩
theorem fd_5_16 : FD 5 16 RX5 "blockSize" "I" (.int) false := ⟨TX5, 19, rfl, inX5, tyX5_ok, nmX5, by decide, rfl, rfl⟩
theorem fd_5_17 : FD 5 17 RX5 "lastBlock" "Z" (.boolean) false := ⟨TX5, 19, rfl, inX5, tyX5_ok, nmX5, by decide, rfl, rfl⟩
theorem fd_5_18 : FD 5 18 RX5 "passed" "Z" (.boolean) false := ⟨TX5, 19, rfl, inX5, tyX5_ok, nmX5, by decide, rfl, rfl⟩
theorem cd_5 : CD 5 19 RX5 := ⟨TX5, rfl, inX5, tyX5_ok, AL_in (tb2 (List.mem_of_getElem? (i := 50) rfl)) rfl, AL_in (tb1 (List.mem_of_getElem? (i := 11) rfl)) rfl⟩
set_option maxRecDepth 20000 in
theorem inX6 : ∀ w ∈ u_ws RX6 TX6 15, w ∈ AL := by
  show ∀ w ∈ [Cond.laysFinal RX6 "TabledFrames$Packer" "finder" "LTabledFrames$Finder;", Cond.laysFinal RX6 "TabledFrames$Packer" "body" "LTabledFrames$Row;", Cond.laysFinal RX6 "TabledFrames$Packer" "weights" "LTabledFrames$Weights;", Cond.laysFinal RX6 "TabledFrames$Packer" "code" "LTabledFrames$Code;", Cond.laysFinal RX6 "TabledFrames$Packer" "defaults" "[LTabledFrames$Table;", Cond.laysFinal RX6 "TabledFrames$Packer" "own" "[LTabledFrames$Table;", Cond.laysFinal RX6 "TabledFrames$Packer" "chosen" "[LTabledFrames$Table;", Cond.laysFinal RX6 "TabledFrames$Packer" "states" "[I", Cond.laysFinal RX6 "TabledFrames$Packer" "values" "[I", Cond.laysFinal RX6 "TabledFrames$Packer" "remembered" "[I", Cond.laysFinal RX6 "TabledFrames$Packer" "tried" "[I", Cond.laysFinal RX6 "TabledFrames$Packer" "often" "[I", Cond.lays RX6 "TabledFrames$Packer" "row" "LTabledFrames$Row;", Cond.lays RX6 "TabledFrames$Packer" "made" "LTabledFrames$Row;", Cond.lays RX6 "TabledFrames$Packer" "level" "I"], w ∈ AL
  exact List.forall_mem_cons.mpr ⟨AL_in (tb3 (List.mem_of_getElem? (i := 87) rfl)) rfl, List.forall_mem_cons.mpr ⟨AL_in (tb3 (List.mem_of_getElem? (i := 89) rfl)) rfl, List.forall_mem_cons.mpr ⟨AL_in (tb3 (List.mem_of_getElem? (i := 91) rfl)) rfl, List.forall_mem_cons.mpr ⟨AL_in (tb3 (List.mem_of_getElem? (i := 93) rfl)) rfl, List.forall_mem_cons.mpr ⟨AL_in (tb3 (List.mem_of_getElem? (i := 95) rfl)) rfl, List.forall_mem_cons.mpr ⟨AL_in (tb3 (List.mem_of_getElem? (i := 97) rfl)) rfl, List.forall_mem_cons.mpr ⟨AL_in (tb3 (List.mem_of_getElem? (i := 99) rfl)) rfl, List.forall_mem_cons.mpr ⟨AL_in (tb3 (List.mem_of_getElem? (i := 101) rfl)) rfl, List.forall_mem_cons.mpr ⟨AL_in (tb3 (List.mem_of_getElem? (i := 103) rfl)) rfl, List.forall_mem_cons.mpr ⟨AL_in (tb3 (List.mem_of_getElem? (i := 105) rfl)) rfl, List.forall_mem_cons.mpr ⟨AL_in (tb3 (List.mem_of_getElem? (i := 107) rfl)) rfl, List.forall_mem_cons.mpr ⟨AL_in (tb3 (List.mem_of_getElem? (i := 109) rfl)) rfl, List.forall_mem_cons.mpr ⟨AL_in (tb3 (List.mem_of_getElem? (i := 111) rfl)) rfl, List.forall_mem_cons.mpr ⟨AL_in (tb3 (List.mem_of_getElem? (i := 113) rfl)) rfl, List.forall_mem_cons.mpr ⟨AL_in (tb3 (List.mem_of_getElem? (i := 115) rfl)) rfl, fun _ h => absurd h List.not_mem_nil⟩⟩⟩⟩⟩⟩⟩⟩⟩⟩⟩⟩⟩⟩⟩
theorem fd_6_0 : FD 6 0 RX6 "finder" "LTabledFrames$Finder;" (.object "TabledFrames$Finder") true := ⟨TX6, 15, rfl, inX6, tyX6_ok, nmX6, by decide, rfl, rfl⟩
theorem fd_6_1 : FD 6 1 RX6 "body" "LTabledFrames$Row;" (.object "TabledFrames$Row") true := ⟨TX6, 15, rfl, inX6, tyX6_ok, nmX6, by decide, rfl, rfl⟩
theorem fd_6_2 : FD 6 2 RX6 "weights" "LTabledFrames$Weights;" (.object "TabledFrames$Weights") true := ⟨TX6, 15, rfl, inX6, tyX6_ok, nmX6, by decide, rfl, rfl⟩
theorem fd_6_3 : FD 6 3 RX6 "code" "LTabledFrames$Code;" (.object "TabledFrames$Code") true := ⟨TX6, 15, rfl, inX6, tyX6_ok, nmX6, by decide, rfl, rfl⟩
theorem fd_6_4 : FD 6 4 RX6 "defaults" "[LTabledFrames$Table;" (.array (.object "TabledFrames$Table")) true := ⟨TX6, 15, rfl, inX6, tyX6_ok, nmX6, by decide, rfl, rfl⟩
theorem fd_6_5 : FD 6 5 RX6 "own" "[LTabledFrames$Table;" (.array (.object "TabledFrames$Table")) true := ⟨TX6, 15, rfl, inX6, tyX6_ok, nmX6, by decide, rfl, rfl⟩
theorem fd_6_6 : FD 6 6 RX6 "chosen" "[LTabledFrames$Table;" (.array (.object "TabledFrames$Table")) true := ⟨TX6, 15, rfl, inX6, tyX6_ok, nmX6, by decide, rfl, rfl⟩
theorem fd_6_7 : FD 6 7 RX6 "states" "[I" (.array .int) true := ⟨TX6, 15, rfl, inX6, tyX6_ok, nmX6, by decide, rfl, rfl⟩
theorem fd_6_8 : FD 6 8 RX6 "values" "[I" (.array .int) true := ⟨TX6, 15, rfl, inX6, tyX6_ok, nmX6, by decide, rfl, rfl⟩
theorem fd_6_9 : FD 6 9 RX6 "remembered" "[I" (.array .int) true := ⟨TX6, 15, rfl, inX6, tyX6_ok, nmX6, by decide, rfl, rfl⟩
theorem fd_6_10 : FD 6 10 RX6 "tried" "[I" (.array .int) true := ⟨TX6, 15, rfl, inX6, tyX6_ok, nmX6, by decide, rfl, rfl⟩
theorem fd_6_11 : FD 6 11 RX6 "often" "[I" (.array .int) true := ⟨TX6, 15, rfl, inX6, tyX6_ok, nmX6, by decide, rfl, rfl⟩
theorem fd_6_12 : FD 6 12 RX6 "row" "LTabledFrames$Row;" (.object "TabledFrames$Row") false := ⟨TX6, 15, rfl, inX6, tyX6_ok, nmX6, by decide, rfl, rfl⟩
theorem fd_6_13 : FD 6 13 RX6 "made" "LTabledFrames$Row;" (.object "TabledFrames$Row") false := ⟨TX6, 15, rfl, inX6, tyX6_ok, nmX6, by decide, rfl, rfl⟩
theorem fd_6_14 : FD 6 14 RX6 "level" "I" (.int) false := ⟨TX6, 15, rfl, inX6, tyX6_ok, nmX6, by decide, rfl, rfl⟩
theorem cd_6 : CD 6 15 RX6 := ⟨TX6, rfl, inX6, tyX6_ok, AL_in (tb3 (List.mem_of_getElem? (i := 11) rfl)) rfl, AL_in (tb1 (List.mem_of_getElem? (i := 14) rfl)) rfl⟩
set_option maxRecDepth 20000 in
theorem inX7 : ∀ w ∈ u_ws RX7 TX7 4, w ∈ AL := by
  show ∀ w ∈ [Cond.lays RX7 "TabledFrames$Report" "fault" "I", Cond.lays RX7 "TabledFrames$Report" "place" "I", Cond.laysFinal RX7 "TabledFrames$Report" "told" "[I", Cond.laysFinal RX7 "TabledFrames$Report" "noted" "[I"], w ∈ AL
  exact List.forall_mem_cons.mpr ⟨AL_in (tb1 (List.mem_of_getElem? (i := 174) rfl)) rfl, List.forall_mem_cons.mpr ⟨AL_in (tb1 (List.mem_of_getElem? (i := 176) rfl)) rfl, List.forall_mem_cons.mpr ⟨AL_in (tb1 (List.mem_of_getElem? (i := 178) rfl)) rfl, List.forall_mem_cons.mpr ⟨AL_in (tb1 (List.mem_of_getElem? (i := 180) rfl)) rfl, fun _ h => absurd h List.not_mem_nil⟩⟩⟩⟩
theorem fd_7_0 : FD 7 0 RX7 "fault" "I" (.int) false := ⟨TX7, 4, rfl, inX7, tyX7_ok, nmX7, by decide, rfl, rfl⟩
theorem fd_7_1 : FD 7 1 RX7 "place" "I" (.int) false := ⟨TX7, 4, rfl, inX7, tyX7_ok, nmX7, by decide, rfl, rfl⟩
theorem fd_7_2 : FD 7 2 RX7 "told" "[I" (.array .int) true := ⟨TX7, 4, rfl, inX7, tyX7_ok, nmX7, by decide, rfl, rfl⟩
theorem fd_7_3 : FD 7 3 RX7 "noted" "[I" (.array .int) true := ⟨TX7, 4, rfl, inX7, tyX7_ok, nmX7, by decide, rfl, rfl⟩
theorem cd_7 : CD 7 4 RX7 := ⟨TX7, rfl, inX7, tyX7_ok, AL_in (tb1 (List.mem_of_getElem? (i := 159) rfl)) rfl, AL_in (tb1 (List.mem_of_getElem? (i := 7) rfl)) rfl⟩
set_option maxRecDepth 20000 in
theorem inX8 : ∀ w ∈ u_ws RX8 TX8 4, w ∈ AL := by
  show ∀ w ∈ [Cond.laysFinal RX8 "TabledFrames$Row" "bytes" "[B", Cond.lays RX8 "TabledFrames$Row" "count" "I", Cond.lays RX8 "TabledFrames$Row" "waiting" "J", Cond.lays RX8 "TabledFrames$Row" "waitingBits" "I"], w ∈ AL
  exact List.forall_mem_cons.mpr ⟨AL_in (tb1 (List.mem_of_getElem? (i := 49) rfl)) rfl, List.forall_mem_cons.mpr ⟨AL_in (tb1 (List.mem_of_getElem? (i := 51) rfl)) rfl, List.forall_mem_cons.mpr ⟨AL_in (tb1 (List.mem_of_getElem? (i := 53) rfl)) rfl, List.forall_mem_cons.mpr ⟨AL_in (tb1 (List.mem_of_getElem? (i := 55) rfl)) rfl, fun _ h => absurd h List.not_mem_nil⟩⟩⟩⟩
theorem fd_8_0 : FD 8 0 RX8 "bytes" "[B" (.array .byte) true := ⟨TX8, 4, rfl, inX8, tyX8_ok, nmX8, by decide, rfl, rfl⟩
theorem fd_8_1 : FD 8 1 RX8 "count" "I" (.int) false := ⟨TX8, 4, rfl, inX8, tyX8_ok, nmX8, by decide, rfl, rfl⟩
theorem fd_8_2 : FD 8 2 RX8 "waiting" "J" (.long) false := ⟨TX8, 4, rfl, inX8, tyX8_ok, nmX8, by decide, rfl, rfl⟩
theorem fd_8_3 : FD 8 3 RX8 "waitingBits" "I" (.int) false := ⟨TX8, 4, rfl, inX8, tyX8_ok, nmX8, by decide, rfl, rfl⟩
theorem cd_8 : CD 8 4 RX8 := ⟨TX8, rfl, inX8, tyX8_ok, AL_in (tb1 (List.mem_of_getElem? (i := 27) rfl)) rfl, AL_in (tb1 (List.mem_of_getElem? (i := 2) rfl)) rfl⟩
set_option maxRecDepth 20000 in
theorem inX9 : ∀ w ∈ u_ws RX9 TX9 19, w ∈ AL := by
  show ∀ w ∈ [Cond.laysFinal RX9 "TabledFrames$Sequences" "latest" "[LTabledFrames$Table;", Cond.laysFinal RX9 "TabledFrames$Sequences" "known" "[Z", Cond.laysFinal RX9 "TabledFrames$Sequences" "own" "[LTabledFrames$Table;", Cond.laysFinal RX9 "TabledFrames$Sequences" "defaults" "[LTabledFrames$Table;", Cond.laysFinal RX9 "TabledFrames$Sequences" "states" "[I", Cond.laysFinal RX9 "TabledFrames$Sequences" "remembered" "[I", Cond.laysFinal RX9 "TabledFrames$Sequences" "report" "LTabledFrames$Report;", Cond.laysFinal RX9 "TabledFrames$Sequences" "letters" "LTabledFrames$Letters;", Cond.laysFinal RX9 "TabledFrames$Sequences" "back" "LTabledFrames$Back;", Cond.laysFinal RX9 "TabledFrames$Sequences" "nothing" "LTabledFrames$Row;", Cond.lays RX9 "TabledFrames$Sequences" "made" "LTabledFrames$Row;", Cond.lays RX9 "TabledFrames$Sequences" "content" "LTabledFrames$Row;", Cond.lays RX9 "TabledFrames$Sequences" "frameFrom" "I", Cond.lays RX9 "TabledFrames$Sequences" "limit" "I", Cond.lays RX9 "TabledFrames$Sequences" "span" "J", Cond.lays RX9 "TabledFrames$Sequences" "wanted" "I", Cond.lays RX9 "TabledFrames$Sequences" "modes" "I", Cond.lays RX9 "TabledFrames$Sequences" "blockFrom" "I", Cond.lays RX9 "TabledFrames$Sequences" "used" "I"], w ∈ AL
  exact List.forall_mem_cons.mpr ⟨AL_in (tb2 (List.mem_of_getElem? (i := 150) rfl)) rfl, List.forall_mem_cons.mpr ⟨AL_in (tb2 (List.mem_of_getElem? (i := 152) rfl)) rfl, List.forall_mem_cons.mpr ⟨AL_in (tb2 (List.mem_of_getElem? (i := 154) rfl)) rfl, List.forall_mem_cons.mpr ⟨AL_in (tb2 (List.mem_of_getElem? (i := 156) rfl)) rfl, List.forall_mem_cons.mpr ⟨AL_in (tb2 (List.mem_of_getElem? (i := 158) rfl)) rfl, List.forall_mem_cons.mpr ⟨AL_in (tb2 (List.mem_of_getElem? (i := 160) rfl)) rfl, List.forall_mem_cons.mpr ⟨AL_in (tb2 (List.mem_of_getElem? (i := 162) rfl)) rfl, List.forall_mem_cons.mpr ⟨AL_in (tb2 (List.mem_of_getElem? (i := 164) rfl)) rfl, List.forall_mem_cons.mpr ⟨AL_in (tb2 (List.mem_of_getElem? (i := 166) rfl)) rfl, List.forall_mem_cons.mpr ⟨AL_in (tb2 (List.mem_of_getElem? (i := 168) rfl)) rfl, List.forall_mem_cons.mpr ⟨AL_in (tb2 (List.mem_of_getElem? (i := 170) rfl)) rfl, List.forall_mem_cons.mpr ⟨AL_in (tb2 (List.mem_of_getElem? (i := 172) rfl)) rfl, List.forall_mem_cons.mpr ⟨AL_in (tb2 (List.mem_of_getElem? (i := 174) rfl)) rfl, List.forall_mem_cons.mpr ⟨AL_in (tb2 (List.mem_of_getElem? (i := 176) rfl)) rfl, List.forall_mem_cons.mpr ⟨AL_in (tb2 (List.mem_of_getElem? (i := 178) rfl)) rfl, List.forall_mem_cons.mpr ⟨AL_in (tb2 (List.mem_of_getElem? (i := 180) rfl)) rfl, List.forall_mem_cons.mpr ⟨AL_in (tb2 (List.mem_of_getElem? (i := 182) rfl)) rfl, List.forall_mem_cons.mpr ⟨AL_in (tb2 (List.mem_of_getElem? (i := 184) rfl)) rfl, List.forall_mem_cons.mpr ⟨AL_in (tb2 (List.mem_of_getElem? (i := 186) rfl)) rfl, fun _ h => absurd h List.not_mem_nil⟩⟩⟩⟩⟩⟩⟩⟩⟩⟩⟩⟩⟩⟩⟩⟩⟩⟩⟩
theorem fd_9_0 : FD 9 0 RX9 "latest" "[LTabledFrames$Table;" (.array (.object "TabledFrames$Table")) true := ⟨TX9, 19, rfl, inX9, tyX9_ok, nmX9, by decide, rfl, rfl⟩
theorem fd_9_1 : FD 9 1 RX9 "known" "[Z" (.array .boolean) true := ⟨TX9, 19, rfl, inX9, tyX9_ok, nmX9, by decide, rfl, rfl⟩
theorem fd_9_2 : FD 9 2 RX9 "own" "[LTabledFrames$Table;" (.array (.object "TabledFrames$Table")) true := ⟨TX9, 19, rfl, inX9, tyX9_ok, nmX9, by decide, rfl, rfl⟩
theorem fd_9_3 : FD 9 3 RX9 "defaults" "[LTabledFrames$Table;" (.array (.object "TabledFrames$Table")) true := ⟨TX9, 19, rfl, inX9, tyX9_ok, nmX9, by decide, rfl, rfl⟩
theorem fd_9_4 : FD 9 4 RX9 "states" "[I" (.array .int) true := ⟨TX9, 19, rfl, inX9, tyX9_ok, nmX9, by decide, rfl, rfl⟩
theorem fd_9_5 : FD 9 5 RX9 "remembered" "[I" (.array .int) true := ⟨TX9, 19, rfl, inX9, tyX9_ok, nmX9, by decide, rfl, rfl⟩
theorem fd_9_6 : FD 9 6 RX9 "report" "LTabledFrames$Report;" (.object "TabledFrames$Report") true := ⟨TX9, 19, rfl, inX9, tyX9_ok, nmX9, by decide, rfl, rfl⟩
theorem fd_9_7 : FD 9 7 RX9 "letters" "LTabledFrames$Letters;" (.object "TabledFrames$Letters") true := ⟨TX9, 19, rfl, inX9, tyX9_ok, nmX9, by decide, rfl, rfl⟩
theorem fd_9_8 : FD 9 8 RX9 "back" "LTabledFrames$Back;" (.object "TabledFrames$Back") true := ⟨TX9, 19, rfl, inX9, tyX9_ok, nmX9, by decide, rfl, rfl⟩
theorem fd_9_9 : FD 9 9 RX9 "nothing" "LTabledFrames$Row;" (.object "TabledFrames$Row") true := ⟨TX9, 19, rfl, inX9, tyX9_ok, nmX9, by decide, rfl, rfl⟩
theorem fd_9_10 : FD 9 10 RX9 "made" "LTabledFrames$Row;" (.object "TabledFrames$Row") false := ⟨TX9, 19, rfl, inX9, tyX9_ok, nmX9, by decide, rfl, rfl⟩
theorem fd_9_11 : FD 9 11 RX9 "content" "LTabledFrames$Row;" (.object "TabledFrames$Row") false := ⟨TX9, 19, rfl, inX9, tyX9_ok, nmX9, by decide, rfl, rfl⟩
theorem fd_9_12 : FD 9 12 RX9 "frameFrom" "I" (.int) false := ⟨TX9, 19, rfl, inX9, tyX9_ok, nmX9, by decide, rfl, rfl⟩
theorem fd_9_13 : FD 9 13 RX9 "limit" "I" (.int) false := ⟨TX9, 19, rfl, inX9, tyX9_ok, nmX9, by decide, rfl, rfl⟩
theorem fd_9_14 : FD 9 14 RX9 "span" "J" (.long) false := ⟨TX9, 19, rfl, inX9, tyX9_ok, nmX9, by decide, rfl, rfl⟩
theorem fd_9_15 : FD 9 15 RX9 "wanted" "I" (.int) false := ⟨TX9, 19, rfl, inX9, tyX9_ok, nmX9, by decide, rfl, rfl⟩
theorem fd_9_16 : FD 9 16 RX9 "modes" "I" (.int) false := ⟨TX9, 19, rfl, inX9, tyX9_ok, nmX9, by decide, rfl, rfl⟩
theorem fd_9_17 : FD 9 17 RX9 "blockFrom" "I" (.int) false := ⟨TX9, 19, rfl, inX9, tyX9_ok, nmX9, by decide, rfl, rfl⟩
theorem fd_9_18 : FD 9 18 RX9 "used" "I" (.int) false := ⟨TX9, 19, rfl, inX9, tyX9_ok, nmX9, by decide, rfl, rfl⟩
theorem cd_9 : CD 9 19 RX9 := ⟨TX9, rfl, inX9, tyX9_ok, AL_in (tb2 (List.mem_of_getElem? (i := 115) rfl)) rfl, AL_in (tb1 (List.mem_of_getElem? (i := 13) rfl)) rfl⟩
set_option maxRecDepth 20000 in
theorem inX10 : ∀ w ∈ u_ws RX10 TX10 9, w ∈ AL := by
  show ∀ w ∈ [Cond.lays RX10 "TabledFrames$Table" "log" "I", Cond.laysFinal RX10 "TabledFrames$Table" "places" "[I", Cond.laysFinal RX10 "TabledFrames$Table" "counts" "[I", Cond.laysFinal RX10 "TabledFrames$Table" "nexts" "[I", Cond.lays RX10 "TabledFrames$Table" "symbols" "I", Cond.lays RX10 "TabledFrames$Table" "data" "[B", Cond.lays RX10 "TabledFrames$Table" "bit" "I", Cond.lays RX10 "TabledFrames$Table" "endBit" "I", Cond.lays RX10 "TabledFrames$Table" "lacking" "Z"], w ∈ AL
  exact List.forall_mem_cons.mpr ⟨AL_in (tb1 (List.mem_of_getElem? (i := 84) rfl)) rfl, List.forall_mem_cons.mpr ⟨AL_in (tb1 (List.mem_of_getElem? (i := 86) rfl)) rfl, List.forall_mem_cons.mpr ⟨AL_in (tb1 (List.mem_of_getElem? (i := 88) rfl)) rfl, List.forall_mem_cons.mpr ⟨AL_in (tb1 (List.mem_of_getElem? (i := 90) rfl)) rfl, List.forall_mem_cons.mpr ⟨AL_in (tb1 (List.mem_of_getElem? (i := 92) rfl)) rfl, List.forall_mem_cons.mpr ⟨AL_in (tb1 (List.mem_of_getElem? (i := 94) rfl)) rfl, List.forall_mem_cons.mpr ⟨AL_in (tb1 (List.mem_of_getElem? (i := 96) rfl)) rfl, List.forall_mem_cons.mpr ⟨AL_in (tb1 (List.mem_of_getElem? (i := 98) rfl)) rfl, List.forall_mem_cons.mpr ⟨AL_in (tb1 (List.mem_of_getElem? (i := 100) rfl)) rfl, fun _ h => absurd h List.not_mem_nil⟩⟩⟩⟩⟩⟩⟩⟩⟩
theorem fd_10_0 : FD 10 0 RX10 "log" "I" (.int) false := ⟨TX10, 9, rfl, inX10, tyX10_ok, nmX10, by decide, rfl, rfl⟩
theorem fd_10_1 : FD 10 1 RX10 "places" "[I" (.array .int) true := ⟨TX10, 9, rfl, inX10, tyX10_ok, nmX10, by decide, rfl, rfl⟩
theorem fd_10_2 : FD 10 2 RX10 "counts" "[I" (.array .int) true := ⟨TX10, 9, rfl, inX10, tyX10_ok, nmX10, by decide, rfl, rfl⟩
theorem fd_10_3 : FD 10 3 RX10 "nexts" "[I" (.array .int) true := ⟨TX10, 9, rfl, inX10, tyX10_ok, nmX10, by decide, rfl, rfl⟩
theorem fd_10_4 : FD 10 4 RX10 "symbols" "I" (.int) false := ⟨TX10, 9, rfl, inX10, tyX10_ok, nmX10, by decide, rfl, rfl⟩
theorem fd_10_5 : FD 10 5 RX10 "data" "[B" (.array .byte) false := ⟨TX10, 9, rfl, inX10, tyX10_ok, nmX10, by decide, rfl, rfl⟩
theorem fd_10_6 : FD 10 6 RX10 "bit" "I" (.int) false := ⟨TX10, 9, rfl, inX10, tyX10_ok, nmX10, by decide, rfl, rfl⟩
theorem fd_10_7 : FD 10 7 RX10 "endBit" "I" (.int) false := ⟨TX10, 9, rfl, inX10, tyX10_ok, nmX10, by decide, rfl, rfl⟩
theorem fd_10_8 : FD 10 8 RX10 "lacking" "Z" (.boolean) false := ⟨TX10, 9, rfl, inX10, tyX10_ok, nmX10, by decide, rfl, rfl⟩
theorem cd_10 : CD 10 9 RX10 := ⟨TX10, rfl, inX10, tyX10_ok, AL_in (tb1 (List.mem_of_getElem? (i := 66) rfl)) rfl, AL_in (tb1 (List.mem_of_getElem? (i := 5) rfl)) rfl⟩
set_option maxRecDepth 20000 in
theorem inX11 : ∀ w ∈ u_ws RX11 TX11 8, w ∈ AL := by
  show ∀ w ∈ [Cond.laysFinal RX11 "TabledFrames$Weights" "weights" "[I", Cond.lays RX11 "TabledFrames$Weights" "count" "I", Cond.lays RX11 "TabledFrames$Weights" "longest" "I", Cond.laysFinal RX11 "TabledFrames$Weights" "table" "LTabledFrames$Table;", Cond.laysFinal RX11 "TabledFrames$Weights" "back" "LTabledFrames$Back;", Cond.laysFinal RX11 "TabledFrames$Weights" "often" "[I", Cond.laysFinal RX11 "TabledFrames$Weights" "parents" "[I", Cond.laysFinal RX11 "TabledFrames$Weights" "depths" "[I"], w ∈ AL
  exact List.forall_mem_cons.mpr ⟨AL_in (tb1 (List.mem_of_getElem? (i := 141) rfl)) rfl, List.forall_mem_cons.mpr ⟨AL_in (tb1 (List.mem_of_getElem? (i := 143) rfl)) rfl, List.forall_mem_cons.mpr ⟨AL_in (tb1 (List.mem_of_getElem? (i := 145) rfl)) rfl, List.forall_mem_cons.mpr ⟨AL_in (tb1 (List.mem_of_getElem? (i := 147) rfl)) rfl, List.forall_mem_cons.mpr ⟨AL_in (tb1 (List.mem_of_getElem? (i := 149) rfl)) rfl, List.forall_mem_cons.mpr ⟨AL_in (tb1 (List.mem_of_getElem? (i := 151) rfl)) rfl, List.forall_mem_cons.mpr ⟨AL_in (tb1 (List.mem_of_getElem? (i := 153) rfl)) rfl, List.forall_mem_cons.mpr ⟨AL_in (tb1 (List.mem_of_getElem? (i := 155) rfl)) rfl, fun _ h => absurd h List.not_mem_nil⟩⟩⟩⟩⟩⟩⟩⟩
theorem fd_11_0 : FD 11 0 RX11 "weights" "[I" (.array .int) true := ⟨TX11, 8, rfl, inX11, tyX11_ok, nmX11, by decide, rfl, rfl⟩
theorem fd_11_1 : FD 11 1 RX11 "count" "I" (.int) false := ⟨TX11, 8, rfl, inX11, tyX11_ok, nmX11, by decide, rfl, rfl⟩
theorem fd_11_2 : FD 11 2 RX11 "longest" "I" (.int) false := ⟨TX11, 8, rfl, inX11, tyX11_ok, nmX11, by decide, rfl, rfl⟩
theorem fd_11_3 : FD 11 3 RX11 "table" "LTabledFrames$Table;" (.object "TabledFrames$Table") true := ⟨TX11, 8, rfl, inX11, tyX11_ok, nmX11, by decide, rfl, rfl⟩
theorem fd_11_4 : FD 11 4 RX11 "back" "LTabledFrames$Back;" (.object "TabledFrames$Back") true := ⟨TX11, 8, rfl, inX11, tyX11_ok, nmX11, by decide, rfl, rfl⟩
theorem fd_11_5 : FD 11 5 RX11 "often" "[I" (.array .int) true := ⟨TX11, 8, rfl, inX11, tyX11_ok, nmX11, by decide, rfl, rfl⟩
theorem fd_11_6 : FD 11 6 RX11 "parents" "[I" (.array .int) true := ⟨TX11, 8, rfl, inX11, tyX11_ok, nmX11, by decide, rfl, rfl⟩
theorem fd_11_7 : FD 11 7 RX11 "depths" "[I" (.array .int) true := ⟨TX11, 8, rfl, inX11, tyX11_ok, nmX11, by decide, rfl, rfl⟩
theorem cd_11 : CD 11 8 RX11 := ⟨TX11, rfl, inX11, tyX11_ok, AL_in (tb1 (List.mem_of_getElem? (i := 60) rfl)) rfl, AL_in (tb1 (List.mem_of_getElem? (i := 4) rfl)) rfl⟩
set_option maxRecDepth 20000 in
theorem inX12 : ∀ w ∈ u_ws RX12 TX12 11, w ∈ AL := by
  show ∀ w ∈ [Cond.lays RX12 "TabledFrames" "row" "LTabledFrames$Row;", Cond.lays RX12 "TabledFrames" "came" "LTabledFrames$Row;", Cond.lays RX12 "TabledFrames" "spare" "LTabledFrames$Row;", Cond.laysFinal RX12 "TabledFrames" "weights" "LTabledFrames$Weights;", Cond.laysFinal RX12 "TabledFrames" "report" "LTabledFrames$Report;", Cond.laysFinal RX12 "TabledFrames" "dictionaries" "[LTabledFrames$Dictionary;", Cond.laysFinal RX12 "TabledFrames" "opener" "LTabledFrames$Opener;", Cond.laysFinal RX12 "TabledFrames" "packer" "LTabledFrames$Packer;", Cond.lays RX12 "TabledFrames" "kept" "LTabledFrames$Dictionary;", Cond.lays RX12 "TabledFrames" "opened" "LTabledFrames$Dictionary;", Cond.lays RX12 "TabledFrames" "place" "I"], w ∈ AL
  exact List.forall_mem_cons.mpr ⟨AL_in (tb3 (List.mem_of_getElem? (i := 129) rfl)) rfl, List.forall_mem_cons.mpr ⟨AL_in (tb3 (List.mem_of_getElem? (i := 131) rfl)) rfl, List.forall_mem_cons.mpr ⟨AL_in (tb3 (List.mem_of_getElem? (i := 133) rfl)) rfl, List.forall_mem_cons.mpr ⟨AL_in (tb3 (List.mem_of_getElem? (i := 135) rfl)) rfl, List.forall_mem_cons.mpr ⟨AL_in (tb3 (List.mem_of_getElem? (i := 137) rfl)) rfl, List.forall_mem_cons.mpr ⟨AL_in (tb3 (List.mem_of_getElem? (i := 139) rfl)) rfl, List.forall_mem_cons.mpr ⟨AL_in (tb3 (List.mem_of_getElem? (i := 141) rfl)) rfl, List.forall_mem_cons.mpr ⟨AL_in (tb3 (List.mem_of_getElem? (i := 143) rfl)) rfl, List.forall_mem_cons.mpr ⟨AL_in (tb3 (List.mem_of_getElem? (i := 145) rfl)) rfl, List.forall_mem_cons.mpr ⟨AL_in (tb3 (List.mem_of_getElem? (i := 147) rfl)) rfl, List.forall_mem_cons.mpr ⟨AL_in (tb3 (List.mem_of_getElem? (i := 149) rfl)) rfl, fun _ h => absurd h List.not_mem_nil⟩⟩⟩⟩⟩⟩⟩⟩⟩⟩⟩
theorem fd_12_0 : FD 12 0 RX12 "row" "LTabledFrames$Row;" (.object "TabledFrames$Row") false := ⟨TX12, 11, rfl, inX12, tyX12_ok, nmX12, by decide, rfl, rfl⟩
theorem fd_12_1 : FD 12 1 RX12 "came" "LTabledFrames$Row;" (.object "TabledFrames$Row") false := ⟨TX12, 11, rfl, inX12, tyX12_ok, nmX12, by decide, rfl, rfl⟩
theorem fd_12_2 : FD 12 2 RX12 "spare" "LTabledFrames$Row;" (.object "TabledFrames$Row") false := ⟨TX12, 11, rfl, inX12, tyX12_ok, nmX12, by decide, rfl, rfl⟩
theorem fd_12_3 : FD 12 3 RX12 "weights" "LTabledFrames$Weights;" (.object "TabledFrames$Weights") true := ⟨TX12, 11, rfl, inX12, tyX12_ok, nmX12, by decide, rfl, rfl⟩
theorem fd_12_4 : FD 12 4 RX12 "report" "LTabledFrames$Report;" (.object "TabledFrames$Report") true := ⟨TX12, 11, rfl, inX12, tyX12_ok, nmX12, by decide, rfl, rfl⟩
theorem fd_12_5 : FD 12 5 RX12 "dictionaries" "[LTabledFrames$Dictionary;" (.array (.object "TabledFrames$Dictionary")) true := ⟨TX12, 11, rfl, inX12, tyX12_ok, nmX12, by decide, rfl, rfl⟩
theorem fd_12_6 : FD 12 6 RX12 "opener" "LTabledFrames$Opener;" (.object "TabledFrames$Opener") true := ⟨TX12, 11, rfl, inX12, tyX12_ok, nmX12, by decide, rfl, rfl⟩
theorem fd_12_7 : FD 12 7 RX12 "packer" "LTabledFrames$Packer;" (.object "TabledFrames$Packer") true := ⟨TX12, 11, rfl, inX12, tyX12_ok, nmX12, by decide, rfl, rfl⟩
theorem fd_12_8 : FD 12 8 RX12 "kept" "LTabledFrames$Dictionary;" (.object "TabledFrames$Dictionary") false := ⟨TX12, 11, rfl, inX12, tyX12_ok, nmX12, by decide, rfl, rfl⟩
theorem fd_12_9 : FD 12 9 RX12 "opened" "LTabledFrames$Dictionary;" (.object "TabledFrames$Dictionary") false := ⟨TX12, 11, rfl, inX12, tyX12_ok, nmX12, by decide, rfl, rfl⟩
theorem fd_12_10 : FD 12 10 RX12 "place" "I" (.int) false := ⟨TX12, 11, rfl, inX12, tyX12_ok, nmX12, by decide, rfl, rfl⟩
theorem cd_12 : CD 12 11 RX12 := ⟨TX12, rfl, inX12, tyX12_ok, AL_in (tb1 (List.mem_of_getElem? (i := 19) rfl)) rfl, AL_in (tb1 (List.mem_of_getElem? (i := 1) rfl)) rfl⟩
set_option maxRecDepth 20000 in
theorem inX13 : ∀ w ∈ u_ws RX13 TX13 75, w ∈ AL := by
  show ∀ w ∈ [Cond.laysFinal RX13 "TabledFramesModel" "row" "[B", Cond.lays RX13 "TabledFramesModel" "size" "I", Cond.laysFinal RX13 "TabledFramesModel" "came" "[B", Cond.lays RX13 "TabledFramesModel" "cameSize" "I", Cond.lays RX13 "TabledFramesModel" "fault" "I", Cond.lays RX13 "TabledFramesModel" "faultPlace" "I", Cond.lays RX13 "TabledFramesModel" "src" "[B", Cond.lays RX13 "TabledFramesModel" "fAt" "I", Cond.lays RX13 "TabledFramesModel" "fEnd" "I", Cond.lays RX13 "TabledFramesModel" "lacks" "Z", Cond.lays RX13 "TabledFramesModel" "rBegin" "I", Cond.lays RX13 "TabledFramesModel" "rAt" "I", Cond.laysFinal RX13 "TabledFramesModel" "counts" "[I", Cond.lays RX13 "TabledFramesModel" "countLog" "I", Cond.laysFinal RX13 "TabledFramesModel" "symbol" "[S", Cond.laysFinal RX13 "TabledFramesModel" "bitsOf" "[B", Cond.laysFinal RX13 "TabledFramesModel" "base" "[I", Cond.laysFinal RX13 "TabledFramesModel" "logOf" "[I", Cond.laysFinal RX13 "TabledFramesModel" "has" "[Z", Cond.laysFinal RX13 "TabledFramesModel" "seen" "[I", Cond.laysFinal RX13 "TabledFramesModel" "codeBits" "[I", Cond.laysFinal RX13 "TabledFramesModel" "hasCode" "[Z", Cond.laysFinal RX13 "TabledFramesModel" "codeMost" "[I", Cond.laysFinal RX13 "TabledFramesModel" "codeSymbol" "[S", Cond.laysFinal RX13 "TabledFramesModel" "weights" "[I", Cond.laysFinal RX13 "TabledFramesModel" "dict" "[B", Cond.lays RX13 "TabledFramesModel" "dictSize" "I", Cond.lays RX13 "TabledFramesModel" "hasDict" "Z", Cond.lays RX13 "TabledFramesModel" "isTabled" "Z", Cond.lays RX13 "TabledFramesModel" "dictNumber" "I", Cond.laysFinal RX13 "TabledFramesModel" "dictReps" "[I", Cond.laysFinal RX13 "TabledFramesModel" "trial" "[B", Cond.laysFinal RX13 "TabledFramesModel" "made" "[B", Cond.lays RX13 "TabledFramesModel" "madeSize" "I", Cond.laysFinal RX13 "TabledFramesModel" "block" "[B", Cond.lays RX13 "TabledFramesModel" "blockSize" "I", Cond.laysFinal RX13 "TabledFramesModel" "letters" "[B", Cond.lays RX13 "TabledFramesModel" "letterCount" "I", Cond.lays RX13 "TabledFramesModel" "lettersOut" "I", Cond.lays RX13 "TabledFramesModel" "frameBegin" "I", Cond.lays RX13 "TabledFramesModel" "counts1" "Z", Cond.lays RX13 "TabledFramesModel" "span" "J", Cond.lays RX13 "TabledFramesModel" "limit" "I", Cond.laysFinal RX13 "TabledFramesModel" "reps" "[I", Cond.laysFinal RX13 "TabledFramesModel" "rep" "[J", Cond.laysFinal RX13 "TabledFramesModel" "tells" "[I", Cond.lays RX13 "TabledFramesModel" "sequences" "I", Cond.laysFinal RX13 "TabledFramesModel" "seqLetters" "[I", Cond.laysFinal RX13 "TabledFramesModel" "seqCopy" "[I", Cond.laysFinal RX13 "TabledFramesModel" "seqValue" "[I", Cond.laysFinal RX13 "TabledFramesModel" "seqOffset" "[I", Cond.lays RX13 "TabledFramesModel" "at" "I", Cond.lays RX13 "TabledFramesModel" "tableAt" "I", Cond.laysFinal RX13 "TabledFramesModel" "file" "[B", Cond.lays RX13 "TabledFramesModel" "fileSize" "I", Cond.laysFinal RX13 "TabledFramesModel" "digits" "[B", Cond.lays RX13 "TabledFramesModel" "digitCount" "I", Cond.laysFinal RX13 "TabledFramesModel" "both" "[B", Cond.lays RX13 "TabledFramesModel" "before" "I", Cond.laysFinal RX13 "TabledFramesModel" "packRep" "[J", Cond.laysFinal RX13 "TabledFramesModel" "keptRep" "[J", Cond.lays RX13 "TabledFramesModel" "acts" "I", Cond.laysFinal RX13 "TabledFramesModel" "actLetters" "[I", Cond.laysFinal RX13 "TabledFramesModel" "actCopy" "[I", Cond.laysFinal RX13 "TabledFramesModel" "actValue" "[J", Cond.laysFinal RX13 "TabledFramesModel" "actSymbol" "[I", Cond.laysFinal RX13 "TabledFramesModel" "actState" "[I", Cond.laysFinal RX13 "TabledFramesModel" "lits" "[B", Cond.lays RX13 "TabledFramesModel" "litCount" "I", Cond.laysFinal RX13 "TabledFramesModel" "often" "[I", Cond.laysFinal RX13 "TabledFramesModel" "weight" "[J", Cond.laysFinal RX13 "TabledFramesModel" "above" "[I", Cond.laysFinal RX13 "TabledFramesModel" "joined" "[Z", Cond.lays RX13 "TabledFramesModel" "held" "I", Cond.lays RX13 "TabledFramesModel" "heldBits" "I"], w ∈ AL
  exact List.forall_mem_cons.mpr ⟨AL_in (tb6 (List.mem_of_getElem? (i := 177) rfl)) rfl, List.forall_mem_cons.mpr ⟨AL_in (tb6 (List.mem_of_getElem? (i := 179) rfl)) rfl, List.forall_mem_cons.mpr ⟨AL_in (tb6 (List.mem_of_getElem? (i := 181) rfl)) rfl, List.forall_mem_cons.mpr ⟨AL_in (tb6 (List.mem_of_getElem? (i := 183) rfl)) rfl, List.forall_mem_cons.mpr ⟨AL_in (tb6 (List.mem_of_getElem? (i := 185) rfl)) rfl, List.forall_mem_cons.mpr ⟨AL_in (tb6 (List.mem_of_getElem? (i := 187) rfl)) rfl, List.forall_mem_cons.mpr ⟨AL_in (tb6 (List.mem_of_getElem? (i := 189) rfl)) rfl, List.forall_mem_cons.mpr ⟨AL_in (tb6 (List.mem_of_getElem? (i := 191) rfl)) rfl, List.forall_mem_cons.mpr ⟨AL_in (tb6 (List.mem_of_getElem? (i := 193) rfl)) rfl, List.forall_mem_cons.mpr ⟨AL_in (tb6 (List.mem_of_getElem? (i := 195) rfl)) rfl, List.forall_mem_cons.mpr ⟨AL_in (tb6 (List.mem_of_getElem? (i := 197) rfl)) rfl, List.forall_mem_cons.mpr ⟨AL_in (tb6 (List.mem_of_getElem? (i := 199) rfl)) rfl, List.forall_mem_cons.mpr ⟨AL_in (tb6 (List.mem_of_getElem? (i := 201) rfl)) rfl, List.forall_mem_cons.mpr ⟨AL_in (tb6 (List.mem_of_getElem? (i := 203) rfl)) rfl, List.forall_mem_cons.mpr ⟨AL_in (tb6 (List.mem_of_getElem? (i := 205) rfl)) rfl, List.forall_mem_cons.mpr ⟨AL_in (tb6 (List.mem_of_getElem? (i := 207) rfl)) rfl, List.forall_mem_cons.mpr ⟨AL_in (tb6 (List.mem_of_getElem? (i := 209) rfl)) rfl, List.forall_mem_cons.mpr ⟨AL_in (tb6 (List.mem_of_getElem? (i := 211) rfl)) rfl, List.forall_mem_cons.mpr ⟨AL_in (tb6 (List.mem_of_getElem? (i := 213) rfl)) rfl, List.forall_mem_cons.mpr ⟨AL_in (tb6 (List.mem_of_getElem? (i := 215) rfl)) rfl, List.forall_mem_cons.mpr ⟨AL_in (tb6 (List.mem_of_getElem? (i := 217) rfl)) rfl, List.forall_mem_cons.mpr ⟨AL_in (tb6 (List.mem_of_getElem? (i := 219) rfl)) rfl, List.forall_mem_cons.mpr ⟨AL_in (tb6 (List.mem_of_getElem? (i := 221) rfl)) rfl, List.forall_mem_cons.mpr ⟨AL_in (tb6 (List.mem_of_getElem? (i := 223) rfl)) rfl, List.forall_mem_cons.mpr ⟨AL_in (tb6 (List.mem_of_getElem? (i := 225) rfl)) rfl, List.forall_mem_cons.mpr ⟨AL_in (tb6 (List.mem_of_getElem? (i := 227) rfl)) rfl, List.forall_mem_cons.mpr ⟨AL_in (tb6 (List.mem_of_getElem? (i := 229) rfl)) rfl, List.forall_mem_cons.mpr ⟨AL_in (tb6 (List.mem_of_getElem? (i := 231) rfl)) rfl, List.forall_mem_cons.mpr ⟨AL_in (tb6 (List.mem_of_getElem? (i := 233) rfl)) rfl, List.forall_mem_cons.mpr ⟨AL_in (tb6 (List.mem_of_getElem? (i := 235) rfl)) rfl, List.forall_mem_cons.mpr ⟨AL_in (tb6 (List.mem_of_getElem? (i := 237) rfl)) rfl, List.forall_mem_cons.mpr ⟨AL_in (tb6 (List.mem_of_getElem? (i := 239) rfl)) rfl, List.forall_mem_cons.mpr ⟨AL_in (tb7 (List.mem_of_getElem? (i := 1) rfl)) rfl, List.forall_mem_cons.mpr ⟨AL_in (tb7 (List.mem_of_getElem? (i := 3) rfl)) rfl, List.forall_mem_cons.mpr ⟨AL_in (tb7 (List.mem_of_getElem? (i := 5) rfl)) rfl, List.forall_mem_cons.mpr ⟨AL_in (tb7 (List.mem_of_getElem? (i := 7) rfl)) rfl, List.forall_mem_cons.mpr ⟨AL_in (tb7 (List.mem_of_getElem? (i := 9) rfl)) rfl, List.forall_mem_cons.mpr ⟨AL_in (tb7 (List.mem_of_getElem? (i := 11) rfl)) rfl, List.forall_mem_cons.mpr ⟨AL_in (tb7 (List.mem_of_getElem? (i := 13) rfl)) rfl, List.forall_mem_cons.mpr ⟨AL_in (tb7 (List.mem_of_getElem? (i := 15) rfl)) rfl, List.forall_mem_cons.mpr ⟨AL_in (tb7 (List.mem_of_getElem? (i := 17) rfl)) rfl, List.forall_mem_cons.mpr ⟨AL_in (tb7 (List.mem_of_getElem? (i := 19) rfl)) rfl, List.forall_mem_cons.mpr ⟨AL_in (tb7 (List.mem_of_getElem? (i := 21) rfl)) rfl, List.forall_mem_cons.mpr ⟨AL_in (tb7 (List.mem_of_getElem? (i := 23) rfl)) rfl, List.forall_mem_cons.mpr ⟨AL_in (tb7 (List.mem_of_getElem? (i := 25) rfl)) rfl, List.forall_mem_cons.mpr ⟨AL_in (tb7 (List.mem_of_getElem? (i := 27) rfl)) rfl, List.forall_mem_cons.mpr ⟨AL_in (tb7 (List.mem_of_getElem? (i := 29) rfl)) rfl, List.forall_mem_cons.mpr ⟨AL_in (tb7 (List.mem_of_getElem? (i := 31) rfl)) rfl, List.forall_mem_cons.mpr ⟨AL_in (tb7 (List.mem_of_getElem? (i := 33) rfl)) rfl, List.forall_mem_cons.mpr ⟨AL_in (tb7 (List.mem_of_getElem? (i := 35) rfl)) rfl, List.forall_mem_cons.mpr ⟨AL_in (tb7 (List.mem_of_getElem? (i := 37) rfl)) rfl, List.forall_mem_cons.mpr ⟨AL_in (tb7 (List.mem_of_getElem? (i := 39) rfl)) rfl, List.forall_mem_cons.mpr ⟨AL_in (tb7 (List.mem_of_getElem? (i := 41) rfl)) rfl, List.forall_mem_cons.mpr ⟨AL_in (tb7 (List.mem_of_getElem? (i := 43) rfl)) rfl, List.forall_mem_cons.mpr ⟨AL_in (tb7 (List.mem_of_getElem? (i := 45) rfl)) rfl, List.forall_mem_cons.mpr ⟨AL_in (tb7 (List.mem_of_getElem? (i := 47) rfl)) rfl, List.forall_mem_cons.mpr ⟨AL_in (tb7 (List.mem_of_getElem? (i := 49) rfl)) rfl, List.forall_mem_cons.mpr ⟨AL_in (tb7 (List.mem_of_getElem? (i := 51) rfl)) rfl, List.forall_mem_cons.mpr ⟨AL_in (tb7 (List.mem_of_getElem? (i := 53) rfl)) rfl, List.forall_mem_cons.mpr ⟨AL_in (tb7 (List.mem_of_getElem? (i := 55) rfl)) rfl, List.forall_mem_cons.mpr ⟨AL_in (tb7 (List.mem_of_getElem? (i := 57) rfl)) rfl, List.forall_mem_cons.mpr ⟨AL_in (tb7 (List.mem_of_getElem? (i := 59) rfl)) rfl, List.forall_mem_cons.mpr ⟨AL_in (tb7 (List.mem_of_getElem? (i := 61) rfl)) rfl, List.forall_mem_cons.mpr ⟨AL_in (tb7 (List.mem_of_getElem? (i := 63) rfl)) rfl, List.forall_mem_cons.mpr ⟨AL_in (tb7 (List.mem_of_getElem? (i := 65) rfl)) rfl, List.forall_mem_cons.mpr ⟨AL_in (tb7 (List.mem_of_getElem? (i := 67) rfl)) rfl, List.forall_mem_cons.mpr ⟨AL_in (tb7 (List.mem_of_getElem? (i := 69) rfl)) rfl, List.forall_mem_cons.mpr ⟨AL_in (tb7 (List.mem_of_getElem? (i := 71) rfl)) rfl, List.forall_mem_cons.mpr ⟨AL_in (tb7 (List.mem_of_getElem? (i := 73) rfl)) rfl, List.forall_mem_cons.mpr ⟨AL_in (tb7 (List.mem_of_getElem? (i := 75) rfl)) rfl, List.forall_mem_cons.mpr ⟨AL_in (tb7 (List.mem_of_getElem? (i := 77) rfl)) rfl, List.forall_mem_cons.mpr ⟨AL_in (tb7 (List.mem_of_getElem? (i := 79) rfl)) rfl, List.forall_mem_cons.mpr ⟨AL_in (tb7 (List.mem_of_getElem? (i := 81) rfl)) rfl, List.forall_mem_cons.mpr ⟨AL_in (tb7 (List.mem_of_getElem? (i := 83) rfl)) rfl, List.forall_mem_cons.mpr ⟨AL_in (tb7 (List.mem_of_getElem? (i := 85) rfl)) rfl, fun _ h => absurd h List.not_mem_nil⟩⟩⟩⟩⟩⟩⟩⟩⟩⟩⟩⟩⟩⟩⟩⟩⟩⟩⟩⟩⟩⟩⟩⟩⟩⟩⟩⟩⟩⟩⟩⟩⟩⟩⟩⟩⟩⟩⟩⟩⟩⟩⟩⟩⟩⟩⟩⟩⟩⟩⟩⟩⟩⟩⟩⟩⟩⟩⟩⟩⟩⟩⟩⟩⟩⟩⟩⟩⟩⟩⟩⟩⟩⟩⟩
theorem fd_13_0 : FD 13 0 RX13 "row" "[B" (.array .byte) true := ⟨TX13, 75, rfl, inX13, tyX13_ok, nmX13, by decide, rfl, rfl⟩
theorem fd_13_1 : FD 13 1 RX13 "size" "I" (.int) false := ⟨TX13, 75, rfl, inX13, tyX13_ok, nmX13, by decide, rfl, rfl⟩
theorem fd_13_2 : FD 13 2 RX13 "came" "[B" (.array .byte) true := ⟨TX13, 75, rfl, inX13, tyX13_ok, nmX13, by decide, rfl, rfl⟩
theorem fd_13_3 : FD 13 3 RX13 "cameSize" "I" (.int) false := ⟨TX13, 75, rfl, inX13, tyX13_ok, nmX13, by decide, rfl, rfl⟩
theorem fd_13_4 : FD 13 4 RX13 "fault" "I" (.int) false := ⟨TX13, 75, rfl, inX13, tyX13_ok, nmX13, by decide, rfl, rfl⟩
theorem fd_13_5 : FD 13 5 RX13 "faultPlace" "I" (.int) false := ⟨TX13, 75, rfl, inX13, tyX13_ok, nmX13, by decide, rfl, rfl⟩
theorem fd_13_6 : FD 13 6 RX13 "src" "[B" (.array .byte) false := ⟨TX13, 75, rfl, inX13, tyX13_ok, nmX13, by decide, rfl, rfl⟩
theorem fd_13_7 : FD 13 7 RX13 "fAt" "I" (.int) false := ⟨TX13, 75, rfl, inX13, tyX13_ok, nmX13, by decide, rfl, rfl⟩
theorem fd_13_8 : FD 13 8 RX13 "fEnd" "I" (.int) false := ⟨TX13, 75, rfl, inX13, tyX13_ok, nmX13, by decide, rfl, rfl⟩
theorem fd_13_9 : FD 13 9 RX13 "lacks" "Z" (.boolean) false := ⟨TX13, 75, rfl, inX13, tyX13_ok, nmX13, by decide, rfl, rfl⟩
theorem fd_13_10 : FD 13 10 RX13 "rBegin" "I" (.int) false := ⟨TX13, 75, rfl, inX13, tyX13_ok, nmX13, by decide, rfl, rfl⟩
theorem fd_13_11 : FD 13 11 RX13 "rAt" "I" (.int) false := ⟨TX13, 75, rfl, inX13, tyX13_ok, nmX13, by decide, rfl, rfl⟩
theorem fd_13_12 : FD 13 12 RX13 "counts" "[I" (.array .int) true := ⟨TX13, 75, rfl, inX13, tyX13_ok, nmX13, by decide, rfl, rfl⟩
theorem fd_13_13 : FD 13 13 RX13 "countLog" "I" (.int) false := ⟨TX13, 75, rfl, inX13, tyX13_ok, nmX13, by decide, rfl, rfl⟩
theorem fd_13_14 : FD 13 14 RX13 "symbol" "[S" (.array .short) true := ⟨TX13, 75, rfl, inX13, tyX13_ok, nmX13, by decide, rfl, rfl⟩
theorem fd_13_15 : FD 13 15 RX13 "bitsOf" "[B" (.array .byte) true := ⟨TX13, 75, rfl, inX13, tyX13_ok, nmX13, by decide, rfl, rfl⟩
theorem fd_13_16 : FD 13 16 RX13 "base" "[I" (.array .int) true := ⟨TX13, 75, rfl, inX13, tyX13_ok, nmX13, by decide, rfl, rfl⟩
theorem fd_13_17 : FD 13 17 RX13 "logOf" "[I" (.array .int) true := ⟨TX13, 75, rfl, inX13, tyX13_ok, nmX13, by decide, rfl, rfl⟩
theorem fd_13_18 : FD 13 18 RX13 "has" "[Z" (.array .boolean) true := ⟨TX13, 75, rfl, inX13, tyX13_ok, nmX13, by decide, rfl, rfl⟩
theorem fd_13_19 : FD 13 19 RX13 "seen" "[I" (.array .int) true := ⟨TX13, 75, rfl, inX13, tyX13_ok, nmX13, by decide, rfl, rfl⟩
theorem fd_13_20 : FD 13 20 RX13 "codeBits" "[I" (.array .int) true := ⟨TX13, 75, rfl, inX13, tyX13_ok, nmX13, by decide, rfl, rfl⟩
theorem fd_13_21 : FD 13 21 RX13 "hasCode" "[Z" (.array .boolean) true := ⟨TX13, 75, rfl, inX13, tyX13_ok, nmX13, by decide, rfl, rfl⟩
theorem fd_13_22 : FD 13 22 RX13 "codeMost" "[I" (.array .int) true := ⟨TX13, 75, rfl, inX13, tyX13_ok, nmX13, by decide, rfl, rfl⟩
theorem fd_13_23 : FD 13 23 RX13 "codeSymbol" "[S" (.array .short) true := ⟨TX13, 75, rfl, inX13, tyX13_ok, nmX13, by decide, rfl, rfl⟩
theorem fd_13_24 : FD 13 24 RX13 "weights" "[I" (.array .int) true := ⟨TX13, 75, rfl, inX13, tyX13_ok, nmX13, by decide, rfl, rfl⟩
theorem fd_13_25 : FD 13 25 RX13 "dict" "[B" (.array .byte) true := ⟨TX13, 75, rfl, inX13, tyX13_ok, nmX13, by decide, rfl, rfl⟩
theorem fd_13_26 : FD 13 26 RX13 "dictSize" "I" (.int) false := ⟨TX13, 75, rfl, inX13, tyX13_ok, nmX13, by decide, rfl, rfl⟩
theorem fd_13_27 : FD 13 27 RX13 "hasDict" "Z" (.boolean) false := ⟨TX13, 75, rfl, inX13, tyX13_ok, nmX13, by decide, rfl, rfl⟩
theorem fd_13_28 : FD 13 28 RX13 "isTabled" "Z" (.boolean) false := ⟨TX13, 75, rfl, inX13, tyX13_ok, nmX13, by decide, rfl, rfl⟩
theorem fd_13_29 : FD 13 29 RX13 "dictNumber" "I" (.int) false := ⟨TX13, 75, rfl, inX13, tyX13_ok, nmX13, by decide, rfl, rfl⟩
theorem fd_13_30 : FD 13 30 RX13 "dictReps" "[I" (.array .int) true := ⟨TX13, 75, rfl, inX13, tyX13_ok, nmX13, by decide, rfl, rfl⟩
theorem fd_13_31 : FD 13 31 RX13 "trial" "[B" (.array .byte) true := ⟨TX13, 75, rfl, inX13, tyX13_ok, nmX13, by decide, rfl, rfl⟩
theorem fd_13_32 : FD 13 32 RX13 "made" "[B" (.array .byte) true := ⟨TX13, 75, rfl, inX13, tyX13_ok, nmX13, by decide, rfl, rfl⟩
theorem fd_13_33 : FD 13 33 RX13 "madeSize" "I" (.int) false := ⟨TX13, 75, rfl, inX13, tyX13_ok, nmX13, by decide, rfl, rfl⟩
theorem fd_13_34 : FD 13 34 RX13 "block" "[B" (.array .byte) true := ⟨TX13, 75, rfl, inX13, tyX13_ok, nmX13, by decide, rfl, rfl⟩
theorem fd_13_35 : FD 13 35 RX13 "blockSize" "I" (.int) false := ⟨TX13, 75, rfl, inX13, tyX13_ok, nmX13, by decide, rfl, rfl⟩
theorem fd_13_36 : FD 13 36 RX13 "letters" "[B" (.array .byte) true := ⟨TX13, 75, rfl, inX13, tyX13_ok, nmX13, by decide, rfl, rfl⟩
theorem fd_13_37 : FD 13 37 RX13 "letterCount" "I" (.int) false := ⟨TX13, 75, rfl, inX13, tyX13_ok, nmX13, by decide, rfl, rfl⟩
theorem fd_13_38 : FD 13 38 RX13 "lettersOut" "I" (.int) false := ⟨TX13, 75, rfl, inX13, tyX13_ok, nmX13, by decide, rfl, rfl⟩
theorem fd_13_39 : FD 13 39 RX13 "frameBegin" "I" (.int) false := ⟨TX13, 75, rfl, inX13, tyX13_ok, nmX13, by decide, rfl, rfl⟩
theorem fd_13_40 : FD 13 40 RX13 "counts1" "Z" (.boolean) false := ⟨TX13, 75, rfl, inX13, tyX13_ok, nmX13, by decide, rfl, rfl⟩
theorem fd_13_41 : FD 13 41 RX13 "span" "J" (.long) false := ⟨TX13, 75, rfl, inX13, tyX13_ok, nmX13, by decide, rfl, rfl⟩
theorem fd_13_42 : FD 13 42 RX13 "limit" "I" (.int) false := ⟨TX13, 75, rfl, inX13, tyX13_ok, nmX13, by decide, rfl, rfl⟩
theorem fd_13_43 : FD 13 43 RX13 "reps" "[I" (.array .int) true := ⟨TX13, 75, rfl, inX13, tyX13_ok, nmX13, by decide, rfl, rfl⟩
theorem fd_13_44 : FD 13 44 RX13 "rep" "[J" (.array .long) true := ⟨TX13, 75, rfl, inX13, tyX13_ok, nmX13, by decide, rfl, rfl⟩
theorem fd_13_45 : FD 13 45 RX13 "tells" "[I" (.array .int) true := ⟨TX13, 75, rfl, inX13, tyX13_ok, nmX13, by decide, rfl, rfl⟩
theorem fd_13_46 : FD 13 46 RX13 "sequences" "I" (.int) false := ⟨TX13, 75, rfl, inX13, tyX13_ok, nmX13, by decide, rfl, rfl⟩
theorem fd_13_47 : FD 13 47 RX13 "seqLetters" "[I" (.array .int) true := ⟨TX13, 75, rfl, inX13, tyX13_ok, nmX13, by decide, rfl, rfl⟩
theorem fd_13_48 : FD 13 48 RX13 "seqCopy" "[I" (.array .int) true := ⟨TX13, 75, rfl, inX13, tyX13_ok, nmX13, by decide, rfl, rfl⟩
theorem fd_13_49 : FD 13 49 RX13 "seqValue" "[I" (.array .int) true := ⟨TX13, 75, rfl, inX13, tyX13_ok, nmX13, by decide, rfl, rfl⟩
theorem fd_13_50 : FD 13 50 RX13 "seqOffset" "[I" (.array .int) true := ⟨TX13, 75, rfl, inX13, tyX13_ok, nmX13, by decide, rfl, rfl⟩
theorem fd_13_51 : FD 13 51 RX13 "at" "I" (.int) false := ⟨TX13, 75, rfl, inX13, tyX13_ok, nmX13, by decide, rfl, rfl⟩
theorem fd_13_52 : FD 13 52 RX13 "tableAt" "I" (.int) false := ⟨TX13, 75, rfl, inX13, tyX13_ok, nmX13, by decide, rfl, rfl⟩
theorem fd_13_53 : FD 13 53 RX13 "file" "[B" (.array .byte) true := ⟨TX13, 75, rfl, inX13, tyX13_ok, nmX13, by decide, rfl, rfl⟩
theorem fd_13_54 : FD 13 54 RX13 "fileSize" "I" (.int) false := ⟨TX13, 75, rfl, inX13, tyX13_ok, nmX13, by decide, rfl, rfl⟩
theorem fd_13_55 : FD 13 55 RX13 "digits" "[B" (.array .byte) true := ⟨TX13, 75, rfl, inX13, tyX13_ok, nmX13, by decide, rfl, rfl⟩
theorem fd_13_56 : FD 13 56 RX13 "digitCount" "I" (.int) false := ⟨TX13, 75, rfl, inX13, tyX13_ok, nmX13, by decide, rfl, rfl⟩
theorem fd_13_57 : FD 13 57 RX13 "both" "[B" (.array .byte) true := ⟨TX13, 75, rfl, inX13, tyX13_ok, nmX13, by decide, rfl, rfl⟩
theorem fd_13_58 : FD 13 58 RX13 "before" "I" (.int) false := ⟨TX13, 75, rfl, inX13, tyX13_ok, nmX13, by decide, rfl, rfl⟩
theorem fd_13_59 : FD 13 59 RX13 "packRep" "[J" (.array .long) true := ⟨TX13, 75, rfl, inX13, tyX13_ok, nmX13, by decide, rfl, rfl⟩
theorem fd_13_60 : FD 13 60 RX13 "keptRep" "[J" (.array .long) true := ⟨TX13, 75, rfl, inX13, tyX13_ok, nmX13, by decide, rfl, rfl⟩
theorem fd_13_61 : FD 13 61 RX13 "acts" "I" (.int) false := ⟨TX13, 75, rfl, inX13, tyX13_ok, nmX13, by decide, rfl, rfl⟩
theorem fd_13_62 : FD 13 62 RX13 "actLetters" "[I" (.array .int) true := ⟨TX13, 75, rfl, inX13, tyX13_ok, nmX13, by decide, rfl, rfl⟩
theorem fd_13_63 : FD 13 63 RX13 "actCopy" "[I" (.array .int) true := ⟨TX13, 75, rfl, inX13, tyX13_ok, nmX13, by decide, rfl, rfl⟩
theorem fd_13_64 : FD 13 64 RX13 "actValue" "[J" (.array .long) true := ⟨TX13, 75, rfl, inX13, tyX13_ok, nmX13, by decide, rfl, rfl⟩
theorem fd_13_65 : FD 13 65 RX13 "actSymbol" "[I" (.array .int) true := ⟨TX13, 75, rfl, inX13, tyX13_ok, nmX13, by decide, rfl, rfl⟩
theorem fd_13_66 : FD 13 66 RX13 "actState" "[I" (.array .int) true := ⟨TX13, 75, rfl, inX13, tyX13_ok, nmX13, by decide, rfl, rfl⟩
theorem fd_13_67 : FD 13 67 RX13 "lits" "[B" (.array .byte) true := ⟨TX13, 75, rfl, inX13, tyX13_ok, nmX13, by decide, rfl, rfl⟩
theorem fd_13_68 : FD 13 68 RX13 "litCount" "I" (.int) false := ⟨TX13, 75, rfl, inX13, tyX13_ok, nmX13, by decide, rfl, rfl⟩
theorem fd_13_69 : FD 13 69 RX13 "often" "[I" (.array .int) true := ⟨TX13, 75, rfl, inX13, tyX13_ok, nmX13, by decide, rfl, rfl⟩
theorem fd_13_70 : FD 13 70 RX13 "weight" "[J" (.array .long) true := ⟨TX13, 75, rfl, inX13, tyX13_ok, nmX13, by decide, rfl, rfl⟩
theorem fd_13_71 : FD 13 71 RX13 "above" "[I" (.array .int) true := ⟨TX13, 75, rfl, inX13, tyX13_ok, nmX13, by decide, rfl, rfl⟩
theorem fd_13_72 : FD 13 72 RX13 "joined" "[Z" (.array .boolean) true := ⟨TX13, 75, rfl, inX13, tyX13_ok, nmX13, by decide, rfl, rfl⟩
theorem fd_13_73 : FD 13 73 RX13 "held" "I" (.int) false := ⟨TX13, 75, rfl, inX13, tyX13_ok, nmX13, by decide, rfl, rfl⟩
theorem fd_13_74 : FD 13 74 RX13 "heldBits" "I" (.int) false := ⟨TX13, 75, rfl, inX13, tyX13_ok, nmX13, by decide, rfl, rfl⟩
theorem cd_13 : CD 13 75 RX13 := ⟨TX13, rfl, inX13, tyX13_ok, AL_in (tb6 (List.mem_of_getElem? (i := 94) rfl)) rfl, AL_in (tb1 (List.mem_of_getElem? (i := 16) rfl)) rfl⟩
theorem hd_X0_init : yX0_init.cls ≠ "java/lang/invoke/MethodHandle" ∧ yX0_init.cls ≠ "java/lang/invoke/VarHandle" ∧ (parseMethodDescriptor yX0_init.desc).map (fun d => d.parameters.length) = some 0 := by decide +kernel
theorem hd_X8_get : yX8_get.cls ≠ "java/lang/invoke/MethodHandle" ∧ yX8_get.cls ≠ "java/lang/invoke/VarHandle" ∧ (parseMethodDescriptor yX8_get.desc).map (fun d => d.parameters.length) = some 1 := by decide +kernel
theorem hd_X12_logOf : yX12_logOf.cls ≠ "java/lang/invoke/MethodHandle" ∧ yX12_logOf.cls ≠ "java/lang/invoke/VarHandle" ∧ (parseMethodDescriptor yX12_logOf.desc).map (fun d => d.parameters.length) = some 1 := by decide +kernel
theorem hd_X0_begin : yX0_begin.cls ≠ "java/lang/invoke/MethodHandle" ∧ yX0_begin.cls ≠ "java/lang/invoke/VarHandle" ∧ (parseMethodDescriptor yX0_begin.desc).map (fun d => d.parameters.length) = some 3 := by decide +kernel
theorem hd_X0_bitsFrom : yX0_bitsFrom.cls ≠ "java/lang/invoke/MethodHandle" ∧ yX0_bitsFrom.cls ≠ "java/lang/invoke/VarHandle" ∧ (parseMethodDescriptor yX0_bitsFrom.desc).map (fun d => d.parameters.length) = some 2 := by decide +kernel
theorem hd_X0_take : yX0_take.cls ≠ "java/lang/invoke/MethodHandle" ∧ yX0_take.cls ≠ "java/lang/invoke/VarHandle" ∧ (parseMethodDescriptor yX0_take.desc).map (fun d => d.parameters.length) = some 1 := by decide +kernel
theorem hd_X0_look : yX0_look.cls ≠ "java/lang/invoke/MethodHandle" ∧ yX0_look.cls ≠ "java/lang/invoke/VarHandle" ∧ (parseMethodDescriptor yX0_look.desc).map (fun d => d.parameters.length) = some 1 := by decide +kernel
theorem hd_X1_init : yX1_init.cls ≠ "java/lang/invoke/MethodHandle" ∧ yX1_init.cls ≠ "java/lang/invoke/VarHandle" ∧ (parseMethodDescriptor yX1_init.desc).map (fun d => d.parameters.length) = some 0 := by decide +kernel
theorem hd_J7_fill_53178 : yJ7_fill_53178.cls ≠ "java/lang/invoke/MethodHandle" ∧ yJ7_fill_53178.cls ≠ "java/lang/invoke/VarHandle" ∧ (parseMethodDescriptor yJ7_fill_53178.desc).map (fun d => d.parameters.length) = some 2 := by decide +kernel
theorem hd_X1_build : yX1_build.cls ≠ "java/lang/invoke/MethodHandle" ∧ yX1_build.cls ≠ "java/lang/invoke/VarHandle" ∧ (parseMethodDescriptor yX1_build.desc).map (fun d => d.parameters.length) = some 1 := by decide +kernel
theorem hd_X1_symbolOf : yX1_symbolOf.cls ≠ "java/lang/invoke/MethodHandle" ∧ yX1_symbolOf.cls ≠ "java/lang/invoke/VarHandle" ∧ (parseMethodDescriptor yX1_symbolOf.desc).map (fun d => d.parameters.length) = some 1 := by decide +kernel
theorem hd_X1_lengthOf : yX1_lengthOf.cls ≠ "java/lang/invoke/MethodHandle" ∧ yX1_lengthOf.cls ≠ "java/lang/invoke/VarHandle" ∧ (parseMethodDescriptor yX1_lengthOf.desc).map (fun d => d.parameters.length) = some 3 := by decide +kernel
theorem hd_X8_init : yX8_init.cls ≠ "java/lang/invoke/MethodHandle" ∧ yX8_init.cls ≠ "java/lang/invoke/VarHandle" ∧ (parseMethodDescriptor yX8_init.desc).map (fun d => d.parameters.length) = some 1 := by decide +kernel
theorem hd_X10_init : yX10_init.cls ≠ "java/lang/invoke/MethodHandle" ∧ yX10_init.cls ≠ "java/lang/invoke/VarHandle" ∧ (parseMethodDescriptor yX10_init.desc).map (fun d => d.parameters.length) = some 0 := by decide +kernel
theorem hd_X2_init : yX2_init.cls ≠ "java/lang/invoke/MethodHandle" ∧ yX2_init.cls ≠ "java/lang/invoke/VarHandle" ∧ (parseMethodDescriptor yX2_init.desc).map (fun d => d.parameters.length) = some 0 := by decide +kernel
theorem hd_X12_rememberFirst : yX12_rememberFirst.cls ≠ "java/lang/invoke/MethodHandle" ∧ yX12_rememberFirst.cls ≠ "java/lang/invoke/VarHandle" ∧ (parseMethodDescriptor yX12_rememberFirst.desc).map (fun d => d.parameters.length) = some 2 := by decide +kernel
theorem hd_X8_number : yX8_number.cls ≠ "java/lang/invoke/MethodHandle" ∧ yX8_number.cls ≠ "java/lang/invoke/VarHandle" ∧ (parseMethodDescriptor yX8_number.desc).map (fun d => d.parameters.length) = some 2 := by decide +kernel
theorem hd_X11_readHalves : yX11_readHalves.cls ≠ "java/lang/invoke/MethodHandle" ∧ yX11_readHalves.cls ≠ "java/lang/invoke/VarHandle" ∧ (parseMethodDescriptor yX11_readHalves.desc).map (fun d => d.parameters.length) = some 3 := by decide +kernel
theorem hd_X10_takeBits : yX10_takeBits.cls ≠ "java/lang/invoke/MethodHandle" ∧ yX10_takeBits.cls ≠ "java/lang/invoke/VarHandle" ∧ (parseMethodDescriptor yX10_takeBits.desc).map (fun d => d.parameters.length) = some 1 := by decide +kernel
theorem hd_X10_takeCount : yX10_takeCount.cls ≠ "java/lang/invoke/MethodHandle" ∧ yX10_takeCount.cls ≠ "java/lang/invoke/VarHandle" ∧ (parseMethodDescriptor yX10_takeCount.desc).map (fun d => d.parameters.length) = some 1 := by decide +kernel
theorem hd_X10_spread : yX10_spread.cls ≠ "java/lang/invoke/MethodHandle" ∧ yX10_spread.cls ≠ "java/lang/invoke/VarHandle" ∧ (parseMethodDescriptor yX10_spread.desc).map (fun d => d.parameters.length) = some 2 := by decide +kernel
theorem hd_X10_symbolAt : yX10_symbolAt.cls ≠ "java/lang/invoke/MethodHandle" ∧ yX10_symbolAt.cls ≠ "java/lang/invoke/VarHandle" ∧ (parseMethodDescriptor yX10_symbolAt.desc).map (fun d => d.parameters.length) = some 1 := by decide +kernel
theorem hd_X10_build : yX10_build.cls ≠ "java/lang/invoke/MethodHandle" ∧ yX10_build.cls ≠ "java/lang/invoke/VarHandle" ∧ (parseMethodDescriptor yX10_build.desc).map (fun d => d.parameters.length) = some 1 := by decide +kernel
theorem hd_X10_read : yX10_read.cls ≠ "java/lang/invoke/MethodHandle" ∧ yX10_read.cls ≠ "java/lang/invoke/VarHandle" ∧ (parseMethodDescriptor yX10_read.desc).map (fun d => d.parameters.length) = some 5 := by decide +kernel
theorem hd_X10_bitsAt : yX10_bitsAt.cls ≠ "java/lang/invoke/MethodHandle" ∧ yX10_bitsAt.cls ≠ "java/lang/invoke/VarHandle" ∧ (parseMethodDescriptor yX10_bitsAt.desc).map (fun d => d.parameters.length) = some 1 := by decide +kernel
theorem hd_X11_endWith : yX11_endWith.cls ≠ "java/lang/invoke/MethodHandle" ∧ yX11_endWith.cls ≠ "java/lang/invoke/VarHandle" ∧ (parseMethodDescriptor yX11_endWith.desc).map (fun d => d.parameters.length) = some 1 := by decide +kernel
theorem hd_X10_baseAt : yX10_baseAt.cls ≠ "java/lang/invoke/MethodHandle" ∧ yX10_baseAt.cls ≠ "java/lang/invoke/VarHandle" ∧ (parseMethodDescriptor yX10_baseAt.desc).map (fun d => d.parameters.length) = some 1 := by decide +kernel
theorem hd_X11_readInTurn : yX11_readInTurn.cls ≠ "java/lang/invoke/MethodHandle" ∧ yX11_readInTurn.cls ≠ "java/lang/invoke/VarHandle" ∧ (parseMethodDescriptor yX11_readInTurn.desc).map (fun d => d.parameters.length) = some 0 := by decide +kernel
theorem hd_X11_complete : yX11_complete.cls ≠ "java/lang/invoke/MethodHandle" ∧ yX11_complete.cls ≠ "java/lang/invoke/VarHandle" ∧ (parseMethodDescriptor yX11_complete.desc).map (fun d => d.parameters.length) = some 0 := by decide +kernel
theorem hd_X11_read : yX11_read.cls ≠ "java/lang/invoke/MethodHandle" ∧ yX11_read.cls ≠ "java/lang/invoke/VarHandle" ∧ (parseMethodDescriptor yX11_read.desc).map (fun d => d.parameters.length) = some 3 := by decide +kernel
theorem hd_X2_readTable : yX2_readTable.cls ≠ "java/lang/invoke/MethodHandle" ∧ yX2_readTable.cls ≠ "java/lang/invoke/VarHandle" ∧ (parseMethodDescriptor yX2_readTable.desc).map (fun d => d.parameters.length) = some 3 := by decide +kernel
theorem hd_X2_readRemembered : yX2_readRemembered.cls ≠ "java/lang/invoke/MethodHandle" ∧ yX2_readRemembered.cls ≠ "java/lang/invoke/VarHandle" ∧ (parseMethodDescriptor yX2_readRemembered.desc).map (fun d => d.parameters.length) = some 2 := by decide +kernel
theorem hd_X2_read : yX2_read.cls ≠ "java/lang/invoke/MethodHandle" ∧ yX2_read.cls ≠ "java/lang/invoke/VarHandle" ∧ (parseMethodDescriptor yX2_read.desc).map (fun d => d.parameters.length) = some 2 := by decide +kernel
theorem hd_X8_addFrom : yX8_addFrom.cls ≠ "java/lang/invoke/MethodHandle" ∧ yX8_addFrom.cls ≠ "java/lang/invoke/VarHandle" ∧ (parseMethodDescriptor yX8_addFrom.desc).map (fun d => d.parameters.length) = some 3 := by decide +kernel
theorem hd_X2_takeContent : yX2_takeContent.cls ≠ "java/lang/invoke/MethodHandle" ∧ yX2_takeContent.cls ≠ "java/lang/invoke/VarHandle" ∧ (parseMethodDescriptor yX2_takeContent.desc).map (fun d => d.parameters.length) = some 1 := by decide +kernel
theorem hd_X3_init : yX3_init.cls ≠ "java/lang/invoke/MethodHandle" ∧ yX3_init.cls ≠ "java/lang/invoke/VarHandle" ∧ (parseMethodDescriptor yX3_init.desc).map (fun d => d.parameters.length) = some 0 := by decide +kernel
theorem hd_X3_begin : yX3_begin.cls ≠ "java/lang/invoke/MethodHandle" ∧ yX3_begin.cls ≠ "java/lang/invoke/VarHandle" ∧ (parseMethodDescriptor yX3_begin.desc).map (fun d => d.parameters.length) = some 2 := by decide +kernel
theorem hd_X3_chainOf : yX3_chainOf.cls ≠ "java/lang/invoke/MethodHandle" ∧ yX3_chainOf.cls ≠ "java/lang/invoke/VarHandle" ∧ (parseMethodDescriptor yX3_chainOf.desc).map (fun d => d.parameters.length) = some 1 := by decide +kernel
theorem hd_X3_linkUpTo : yX3_linkUpTo.cls ≠ "java/lang/invoke/MethodHandle" ∧ yX3_linkUpTo.cls ≠ "java/lang/invoke/VarHandle" ∧ (parseMethodDescriptor yX3_linkUpTo.desc).map (fun d => d.parameters.length) = some 1 := by decide +kernel
theorem hd_X3_sameFrom : yX3_sameFrom.cls ≠ "java/lang/invoke/MethodHandle" ∧ yX3_sameFrom.cls ≠ "java/lang/invoke/VarHandle" ∧ (parseMethodDescriptor yX3_sameFrom.desc).map (fun d => d.parameters.length) = some 3 := by decide +kernel
theorem hd_X3_findBest : yX3_findBest.cls ≠ "java/lang/invoke/MethodHandle" ∧ yX3_findBest.cls ≠ "java/lang/invoke/VarHandle" ∧ (parseMethodDescriptor yX3_findBest.desc).map (fun d => d.parameters.length) = some 2 := by decide +kernel
theorem hd_X8_add : yX8_add.cls ≠ "java/lang/invoke/MethodHandle" ∧ yX8_add.cls ≠ "java/lang/invoke/VarHandle" ∧ (parseMethodDescriptor yX8_add.desc).map (fun d => d.parameters.length) = some 1 := by decide +kernel
theorem hd_X3_find : yX3_find.cls ≠ "java/lang/invoke/MethodHandle" ∧ yX3_find.cls ≠ "java/lang/invoke/VarHandle" ∧ (parseMethodDescriptor yX3_find.desc).map (fun d => d.parameters.length) = some 2 := by decide +kernel
theorem hd_X4_init : yX4_init.cls ≠ "java/lang/invoke/MethodHandle" ∧ yX4_init.cls ≠ "java/lang/invoke/VarHandle" ∧ (parseMethodDescriptor yX4_init.desc).map (fun d => d.parameters.length) = some 2 := by decide +kernel
theorem hd_X4_beginFrame : yX4_beginFrame.cls ≠ "java/lang/invoke/MethodHandle" ∧ yX4_beginFrame.cls ≠ "java/lang/invoke/VarHandle" ∧ (parseMethodDescriptor yX4_beginFrame.desc).map (fun d => d.parameters.length) = some 1 := by decide +kernel
theorem hd_X4_coded : yX4_coded.cls ≠ "java/lang/invoke/MethodHandle" ∧ yX4_coded.cls ≠ "java/lang/invoke/VarHandle" ∧ (parseMethodDescriptor yX4_coded.desc).map (fun d => d.parameters.length) = some 0 := by decide +kernel
theorem hd_X7_fail : yX7_fail.cls ≠ "java/lang/invoke/MethodHandle" ∧ yX7_fail.cls ≠ "java/lang/invoke/VarHandle" ∧ (parseMethodDescriptor yX7_fail.desc).map (fun d => d.parameters.length) = some 2 := by decide +kernel
theorem hd_X4_readHead : yX4_readHead.cls ≠ "java/lang/invoke/MethodHandle" ∧ yX4_readHead.cls ≠ "java/lang/invoke/VarHandle" ∧ (parseMethodDescriptor yX4_readHead.desc).map (fun d => d.parameters.length) = some 4 := by decide +kernel
theorem hd_X4_readCode : yX4_readCode.cls ≠ "java/lang/invoke/MethodHandle" ∧ yX4_readCode.cls ≠ "java/lang/invoke/VarHandle" ∧ (parseMethodDescriptor yX4_readCode.desc).map (fun d => d.parameters.length) = some 1 := by decide +kernel
theorem hd_X8_addSame : yX8_addSame.cls ≠ "java/lang/invoke/MethodHandle" ∧ yX8_addSame.cls ≠ "java/lang/invoke/VarHandle" ∧ (parseMethodDescriptor yX8_addSame.desc).map (fun d => d.parameters.length) = some 2 := by decide +kernel
theorem hd_X4_readStream : yX4_readStream.cls ≠ "java/lang/invoke/MethodHandle" ∧ yX4_readStream.cls ≠ "java/lang/invoke/VarHandle" ∧ (parseMethodDescriptor yX4_readStream.desc).map (fun d => d.parameters.length) = some 4 := by decide +kernel
theorem hd_X4_readFour : yX4_readFour.cls ≠ "java/lang/invoke/MethodHandle" ∧ yX4_readFour.cls ≠ "java/lang/invoke/VarHandle" ∧ (parseMethodDescriptor yX4_readFour.desc).map (fun d => d.parameters.length) = some 1 := by decide +kernel
theorem hd_X4_readBody : yX4_readBody.cls ≠ "java/lang/invoke/MethodHandle" ∧ yX4_readBody.cls ≠ "java/lang/invoke/VarHandle" ∧ (parseMethodDescriptor yX4_readBody.desc).map (fun d => d.parameters.length) = some 1 := by decide +kernel
theorem hd_X9_init : yX9_init.cls ≠ "java/lang/invoke/MethodHandle" ∧ yX9_init.cls ≠ "java/lang/invoke/VarHandle" ∧ (parseMethodDescriptor yX9_init.desc).map (fun d => d.parameters.length) = some 3 := by decide +kernel
theorem hd_X5_init : yX5_init.cls ≠ "java/lang/invoke/MethodHandle" ∧ yX5_init.cls ≠ "java/lang/invoke/VarHandle" ∧ (parseMethodDescriptor yX5_init.desc).map (fun d => d.parameters.length) = some 3 := by decide +kernel
theorem hd_X7_clear : yX7_clear.cls ≠ "java/lang/invoke/MethodHandle" ∧ yX7_clear.cls ≠ "java/lang/invoke/VarHandle" ∧ (parseMethodDescriptor yX7_clear.desc).map (fun d => d.parameters.length) = some 0 := by decide +kernel
theorem hd_X5_forget : yX5_forget.cls ≠ "java/lang/invoke/MethodHandle" ∧ yX5_forget.cls ≠ "java/lang/invoke/VarHandle" ∧ (parseMethodDescriptor yX5_forget.desc).map (fun d => d.parameters.length) = some 0 := by decide +kernel
theorem hd_X5_there : yX5_there.cls ≠ "java/lang/invoke/MethodHandle" ∧ yX5_there.cls ≠ "java/lang/invoke/VarHandle" ∧ (parseMethodDescriptor yX5_there.desc).map (fun d => d.parameters.length) = some 1 := by decide +kernel
theorem hd_X5_lacks : yX5_lacks.cls ≠ "java/lang/invoke/MethodHandle" ∧ yX5_lacks.cls ≠ "java/lang/invoke/VarHandle" ∧ (parseMethodDescriptor yX5_lacks.desc).map (fun d => d.parameters.length) = some 0 := by decide +kernel
theorem hd_X5_passOver : yX5_passOver.cls ≠ "java/lang/invoke/MethodHandle" ∧ yX5_passOver.cls ≠ "java/lang/invoke/VarHandle" ∧ (parseMethodDescriptor yX5_passOver.desc).map (fun d => d.parameters.length) = some 0 := by decide +kernel
theorem hd_X5_readSpan : yX5_readSpan.cls ≠ "java/lang/invoke/MethodHandle" ∧ yX5_readSpan.cls ≠ "java/lang/invoke/VarHandle" ∧ (parseMethodDescriptor yX5_readSpan.desc).map (fun d => d.parameters.length) = some 0 := by decide +kernel
theorem hd_X5_readNumber : yX5_readNumber.cls ≠ "java/lang/invoke/MethodHandle" ∧ yX5_readNumber.cls ≠ "java/lang/invoke/VarHandle" ∧ (parseMethodDescriptor yX5_readNumber.desc).map (fun d => d.parameters.length) = some 1 := by decide +kernel
theorem hd_X5_readSize : yX5_readSize.cls ≠ "java/lang/invoke/MethodHandle" ∧ yX5_readSize.cls ≠ "java/lang/invoke/VarHandle" ∧ (parseMethodDescriptor yX5_readSize.desc).map (fun d => d.parameters.length) = some 2 := by decide +kernel
theorem hd_X7_noteRemembered : yX7_noteRemembered.cls ≠ "java/lang/invoke/MethodHandle" ∧ yX7_noteRemembered.cls ≠ "java/lang/invoke/VarHandle" ∧ (parseMethodDescriptor yX7_noteRemembered.desc).map (fun d => d.parameters.length) = some 1 := by decide +kernel
theorem hd_X9_beginFrame : yX9_beginFrame.cls ≠ "java/lang/invoke/MethodHandle" ∧ yX9_beginFrame.cls ≠ "java/lang/invoke/VarHandle" ∧ (parseMethodDescriptor yX9_beginFrame.desc).map (fun d => d.parameters.length) = some 3 := by decide +kernel
theorem hd_X5_beginFrame : yX5_beginFrame.cls ≠ "java/lang/invoke/MethodHandle" ∧ yX5_beginFrame.cls ≠ "java/lang/invoke/VarHandle" ∧ (parseMethodDescriptor yX5_beginFrame.desc).map (fun d => d.parameters.length) = some 0 := by decide +kernel
theorem hd_X5_readHead : yX5_readHead.cls ≠ "java/lang/invoke/MethodHandle" ∧ yX5_readHead.cls ≠ "java/lang/invoke/VarHandle" ∧ (parseMethodDescriptor yX5_readHead.desc).map (fun d => d.parameters.length) = some 0 := by decide +kernel
theorem hd_X5_readMark : yX5_readMark.cls ≠ "java/lang/invoke/MethodHandle" ∧ yX5_readMark.cls ≠ "java/lang/invoke/VarHandle" ∧ (parseMethodDescriptor yX5_readMark.desc).map (fun d => d.parameters.length) = some 0 := by decide +kernel
theorem hd_X5_readBlockHead : yX5_readBlockHead.cls ≠ "java/lang/invoke/MethodHandle" ∧ yX5_readBlockHead.cls ≠ "java/lang/invoke/VarHandle" ∧ (parseMethodDescriptor yX5_readBlockHead.desc).map (fun d => d.parameters.length) = some 0 := by decide +kernel
theorem hd_X9_wrong : yX9_wrong.cls ≠ "java/lang/invoke/MethodHandle" ∧ yX9_wrong.cls ≠ "java/lang/invoke/VarHandle" ∧ (parseMethodDescriptor yX9_wrong.desc).map (fun d => d.parameters.length) = some 2 := by decide +kernel
theorem hd_X9_readHead : yX9_readHead.cls ≠ "java/lang/invoke/MethodHandle" ∧ yX9_readHead.cls ≠ "java/lang/invoke/VarHandle" ∧ (parseMethodDescriptor yX9_readHead.desc).map (fun d => d.parameters.length) = some 3 := by decide +kernel
theorem hd_X9_none : yX9_none.cls ≠ "java/lang/invoke/MethodHandle" ∧ yX9_none.cls ≠ "java/lang/invoke/VarHandle" ∧ (parseMethodDescriptor yX9_none.desc).map (fun d => d.parameters.length) = some 0 := by decide +kernel
theorem hd_X10_buildOnly : yX10_buildOnly.cls ≠ "java/lang/invoke/MethodHandle" ∧ yX10_buildOnly.cls ≠ "java/lang/invoke/VarHandle" ∧ (parseMethodDescriptor yX10_buildOnly.desc).map (fun d => d.parameters.length) = some 1 := by decide +kernel
theorem hd_X9_readTable : yX9_readTable.cls ≠ "java/lang/invoke/MethodHandle" ∧ yX9_readTable.cls ≠ "java/lang/invoke/VarHandle" ∧ (parseMethodDescriptor yX9_readTable.desc).map (fun d => d.parameters.length) = some 5 := by decide +kernel
theorem hd_X9_symbolOf : yX9_symbolOf.cls ≠ "java/lang/invoke/MethodHandle" ∧ yX9_symbolOf.cls ≠ "java/lang/invoke/VarHandle" ∧ (parseMethodDescriptor yX9_symbolOf.desc).map (fun d => d.parameters.length) = some 1 := by decide +kernel
theorem hd_X12_baseOf : yX12_baseOf.cls ≠ "java/lang/invoke/MethodHandle" ∧ yX12_baseOf.cls ≠ "java/lang/invoke/VarHandle" ∧ (parseMethodDescriptor yX12_baseOf.desc).map (fun d => d.parameters.length) = some 1 := by decide +kernel
theorem hd_X12_extraOf : yX12_extraOf.cls ≠ "java/lang/invoke/MethodHandle" ∧ yX12_extraOf.cls ≠ "java/lang/invoke/VarHandle" ∧ (parseMethodDescriptor yX12_extraOf.desc).map (fun d => d.parameters.length) = some 1 := by decide +kernel
theorem hd_X9_lengthOf : yX9_lengthOf.cls ≠ "java/lang/invoke/MethodHandle" ∧ yX9_lengthOf.cls ≠ "java/lang/invoke/VarHandle" ∧ (parseMethodDescriptor yX9_lengthOf.desc).map (fun d => d.parameters.length) = some 1 := by decide +kernel
theorem hd_X9_goOn : yX9_goOn.cls ≠ "java/lang/invoke/MethodHandle" ∧ yX9_goOn.cls ≠ "java/lang/invoke/VarHandle" ∧ (parseMethodDescriptor yX9_goOn.desc).map (fun d => d.parameters.length) = some 1 := by decide +kernel
theorem hd_X9_putLetters : yX9_putLetters.cls ≠ "java/lang/invoke/MethodHandle" ∧ yX9_putLetters.cls ≠ "java/lang/invoke/VarHandle" ∧ (parseMethodDescriptor yX9_putLetters.desc).map (fun d => d.parameters.length) = some 1 := by decide +kernel
theorem hd_X12_whichOf : yX12_whichOf.cls ≠ "java/lang/invoke/MethodHandle" ∧ yX12_whichOf.cls ≠ "java/lang/invoke/VarHandle" ∧ (parseMethodDescriptor yX12_whichOf.desc).map (fun d => d.parameters.length) = some 2 := by decide +kernel
theorem hd_X12_offsetOf : yX12_offsetOf.cls ≠ "java/lang/invoke/MethodHandle" ∧ yX12_offsetOf.cls ≠ "java/lang/invoke/VarHandle" ∧ (parseMethodDescriptor yX12_offsetOf.desc).map (fun d => d.parameters.length) = some 3 := by decide +kernel
theorem hd_X9_reaches : yX9_reaches.cls ≠ "java/lang/invoke/MethodHandle" ∧ yX9_reaches.cls ≠ "java/lang/invoke/VarHandle" ∧ (parseMethodDescriptor yX9_reaches.desc).map (fun d => d.parameters.length) = some 1 := by decide +kernel
theorem hd_X9_putCopy : yX9_putCopy.cls ≠ "java/lang/invoke/MethodHandle" ∧ yX9_putCopy.cls ≠ "java/lang/invoke/VarHandle" ∧ (parseMethodDescriptor yX9_putCopy.desc).map (fun d => d.parameters.length) = some 2 := by decide +kernel
theorem hd_X9_tooMany : yX9_tooMany.cls ≠ "java/lang/invoke/MethodHandle" ∧ yX9_tooMany.cls ≠ "java/lang/invoke/VarHandle" ∧ (parseMethodDescriptor yX9_tooMany.desc).map (fun d => d.parameters.length) = some 0 := by decide +kernel
theorem hd_X12_remember : yX12_remember.cls ≠ "java/lang/invoke/MethodHandle" ∧ yX12_remember.cls ≠ "java/lang/invoke/VarHandle" ∧ (parseMethodDescriptor yX12_remember.desc).map (fun d => d.parameters.length) = some 3 := by decide +kernel
theorem hd_X7_note : yX7_note.cls ≠ "java/lang/invoke/MethodHandle" ∧ yX7_note.cls ≠ "java/lang/invoke/VarHandle" ∧ (parseMethodDescriptor yX7_note.desc).map (fun d => d.parameters.length) = some 4 := by decide +kernel
theorem hd_X9_runOne : yX9_runOne.cls ≠ "java/lang/invoke/MethodHandle" ∧ yX9_runOne.cls ≠ "java/lang/invoke/VarHandle" ∧ (parseMethodDescriptor yX9_runOne.desc).map (fun d => d.parameters.length) = some 1 := by decide +kernel
theorem hd_X9_run : yX9_run.cls ≠ "java/lang/invoke/MethodHandle" ∧ yX9_run.cls ≠ "java/lang/invoke/VarHandle" ∧ (parseMethodDescriptor yX9_run.desc).map (fun d => d.parameters.length) = some 3 := by decide +kernel
theorem hd_X5_readPacked : yX5_readPacked.cls ≠ "java/lang/invoke/MethodHandle" ∧ yX5_readPacked.cls ≠ "java/lang/invoke/VarHandle" ∧ (parseMethodDescriptor yX5_readPacked.desc).map (fun d => d.parameters.length) = some 0 := by decide +kernel
theorem hd_X5_readPlain : yX5_readPlain.cls ≠ "java/lang/invoke/MethodHandle" ∧ yX5_readPlain.cls ≠ "java/lang/invoke/VarHandle" ∧ (parseMethodDescriptor yX5_readPlain.desc).map (fun d => d.parameters.length) = some 0 := by decide +kernel
theorem hd_X5_endBlock : yX5_endBlock.cls ≠ "java/lang/invoke/MethodHandle" ∧ yX5_endBlock.cls ≠ "java/lang/invoke/VarHandle" ∧ (parseMethodDescriptor yX5_endBlock.desc).map (fun d => d.parameters.length) = some 0 := by decide +kernel
theorem hd_X12_turn : yX12_turn.cls ≠ "java/lang/invoke/MethodHandle" ∧ yX12_turn.cls ≠ "java/lang/invoke/VarHandle" ∧ (parseMethodDescriptor yX12_turn.desc).map (fun d => d.parameters.length) = some 2 := by decide +kernel
theorem hd_X12_round : yX12_round.cls ≠ "java/lang/invoke/MethodHandle" ∧ yX12_round.cls ≠ "java/lang/invoke/VarHandle" ∧ (parseMethodDescriptor yX12_round.desc).map (fun d => d.parameters.length) = some 2 := by decide +kernel
theorem hd_X8_sumOfLong : yX8_sumOfLong.cls ≠ "java/lang/invoke/MethodHandle" ∧ yX8_sumOfLong.cls ≠ "java/lang/invoke/VarHandle" ∧ (parseMethodDescriptor yX8_sumOfLong.desc).map (fun d => d.parameters.length) = some 2 := by decide +kernel
theorem hd_X8_sumFrom : yX8_sumFrom.cls ≠ "java/lang/invoke/MethodHandle" ∧ yX8_sumFrom.cls ≠ "java/lang/invoke/VarHandle" ∧ (parseMethodDescriptor yX8_sumFrom.desc).map (fun d => d.parameters.length) = some 1 := by decide +kernel
theorem hd_X5_readEnd : yX5_readEnd.cls ≠ "java/lang/invoke/MethodHandle" ∧ yX5_readEnd.cls ≠ "java/lang/invoke/VarHandle" ∧ (parseMethodDescriptor yX5_readEnd.desc).map (fun d => d.parameters.length) = some 0 := by decide +kernel
theorem hd_X5_openAll : yX5_openAll.cls ≠ "java/lang/invoke/MethodHandle" ∧ yX5_openAll.cls ≠ "java/lang/invoke/VarHandle" ∧ (parseMethodDescriptor yX5_openAll.desc).map (fun d => d.parameters.length) = some 4 := by decide +kernel
theorem hd_X6_init : yX6_init.cls ≠ "java/lang/invoke/MethodHandle" ∧ yX6_init.cls ≠ "java/lang/invoke/VarHandle" ∧ (parseMethodDescriptor yX6_init.desc).map (fun d => d.parameters.length) = some 2 := by decide +kernel
theorem hd_X8_addNumber : yX8_addNumber.cls ≠ "java/lang/invoke/MethodHandle" ∧ yX8_addNumber.cls ≠ "java/lang/invoke/VarHandle" ∧ (parseMethodDescriptor yX8_addNumber.desc).map (fun d => d.parameters.length) = some 2 := by decide +kernel
theorem hd_X6_writeHead : yX6_writeHead.cls ≠ "java/lang/invoke/MethodHandle" ∧ yX6_writeHead.cls ≠ "java/lang/invoke/VarHandle" ∧ (parseMethodDescriptor yX6_writeHead.desc).map (fun d => d.parameters.length) = some 2 := by decide +kernel
theorem hd_X8_same : yX8_same.cls ≠ "java/lang/invoke/MethodHandle" ∧ yX8_same.cls ≠ "java/lang/invoke/VarHandle" ∧ (parseMethodDescriptor yX8_same.desc).map (fun d => d.parameters.length) = some 2 := by decide +kernel
theorem hd_X6_valueOf : yX6_valueOf.cls ≠ "java/lang/invoke/MethodHandle" ∧ yX6_valueOf.cls ≠ "java/lang/invoke/VarHandle" ∧ (parseMethodDescriptor yX6_valueOf.desc).map (fun d => d.parameters.length) = some 2 := by decide +kernel
theorem hd_X6_allLow : yX6_allLow.cls ≠ "java/lang/invoke/MethodHandle" ∧ yX6_allLow.cls ≠ "java/lang/invoke/VarHandle" ∧ (parseMethodDescriptor yX6_allLow.desc).map (fun d => d.parameters.length) = some 1 := by decide +kernel
theorem hd_X11_least : yX11_least.cls ≠ "java/lang/invoke/MethodHandle" ∧ yX11_least.cls ≠ "java/lang/invoke/VarHandle" ∧ (parseMethodDescriptor yX11_least.desc).map (fun d => d.parameters.length) = some 1 := by decide +kernel
theorem hd_X11_join : yX11_join.cls ≠ "java/lang/invoke/MethodHandle" ∧ yX11_join.cls ≠ "java/lang/invoke/VarHandle" ∧ (parseMethodDescriptor yX11_join.desc).map (fun d => d.parameters.length) = some 0 := by decide +kernel
theorem hd_X11_make : yX11_make.cls ≠ "java/lang/invoke/MethodHandle" ∧ yX11_make.cls ≠ "java/lang/invoke/VarHandle" ∧ (parseMethodDescriptor yX11_make.desc).map (fun d => d.parameters.length) = some 1 := by decide +kernel
theorem hd_X6_writeWeights : yX6_writeWeights.cls ≠ "java/lang/invoke/MethodHandle" ∧ yX6_writeWeights.cls ≠ "java/lang/invoke/VarHandle" ∧ (parseMethodDescriptor yX6_writeWeights.desc).map (fun d => d.parameters.length) = some 0 := by decide +kernel
theorem hd_X8_addBits : yX8_addBits.cls ≠ "java/lang/invoke/MethodHandle" ∧ yX8_addBits.cls ≠ "java/lang/invoke/VarHandle" ∧ (parseMethodDescriptor yX8_addBits.desc).map (fun d => d.parameters.length) = some 2 := by decide +kernel
theorem hd_X8_endBits : yX8_endBits.cls ≠ "java/lang/invoke/MethodHandle" ∧ yX8_endBits.cls ≠ "java/lang/invoke/VarHandle" ∧ (parseMethodDescriptor yX8_endBits.desc).map (fun d => d.parameters.length) = some 0 := by decide +kernel
theorem hd_X6_writeStream : yX6_writeStream.cls ≠ "java/lang/invoke/MethodHandle" ∧ yX6_writeStream.cls ≠ "java/lang/invoke/VarHandle" ∧ (parseMethodDescriptor yX6_writeStream.desc).map (fun d => d.parameters.length) = some 3 := by decide +kernel
theorem hd_X6_writeCoded : yX6_writeCoded.cls ≠ "java/lang/invoke/MethodHandle" ∧ yX6_writeCoded.cls ≠ "java/lang/invoke/VarHandle" ∧ (parseMethodDescriptor yX6_writeCoded.desc).map (fun d => d.parameters.length) = some 2 := by decide +kernel
theorem hd_X6_writeLetters : yX6_writeLetters.cls ≠ "java/lang/invoke/MethodHandle" ∧ yX6_writeLetters.cls ≠ "java/lang/invoke/VarHandle" ∧ (parseMethodDescriptor yX6_writeLetters.desc).map (fun d => d.parameters.length) = some 0 := by decide +kernel
theorem hd_X6_symbolOf : yX6_symbolOf.cls ≠ "java/lang/invoke/MethodHandle" ∧ yX6_symbolOf.cls ≠ "java/lang/invoke/VarHandle" ∧ (parseMethodDescriptor yX6_symbolOf.desc).map (fun d => d.parameters.length) = some 2 := by decide +kernel
theorem hd_X10_mostCounted : yX10_mostCounted.cls ≠ "java/lang/invoke/MethodHandle" ∧ yX10_mostCounted.cls ≠ "java/lang/invoke/VarHandle" ∧ (parseMethodDescriptor yX10_mostCounted.desc).map (fun d => d.parameters.length) = some 0 := by decide +kernel
theorem hd_X10_buildFor : yX10_buildFor.cls ≠ "java/lang/invoke/MethodHandle" ∧ yX10_buildFor.cls ≠ "java/lang/invoke/VarHandle" ∧ (parseMethodDescriptor yX10_buildFor.desc).map (fun d => d.parameters.length) = some 3 := by decide +kernel
theorem hd_X10_writeCount : yX10_writeCount.cls ≠ "java/lang/invoke/MethodHandle" ∧ yX10_writeCount.cls ≠ "java/lang/invoke/VarHandle" ∧ (parseMethodDescriptor yX10_writeCount.desc).map (fun d => d.parameters.length) = some 3 := by decide +kernel
theorem hd_X10_writeZeros : yX10_writeZeros.cls ≠ "java/lang/invoke/MethodHandle" ∧ yX10_writeZeros.cls ≠ "java/lang/invoke/VarHandle" ∧ (parseMethodDescriptor yX10_writeZeros.desc).map (fun d => d.parameters.length) = some 2 := by decide +kernel
theorem hd_X10_write : yX10_write.cls ≠ "java/lang/invoke/MethodHandle" ∧ yX10_write.cls ≠ "java/lang/invoke/VarHandle" ∧ (parseMethodDescriptor yX10_write.desc).map (fun d => d.parameters.length) = some 1 := by decide +kernel
theorem hd_X6_writeTable : yX6_writeTable.cls ≠ "java/lang/invoke/MethodHandle" ∧ yX6_writeTable.cls ≠ "java/lang/invoke/VarHandle" ∧ (parseMethodDescriptor yX6_writeTable.desc).map (fun d => d.parameters.length) = some 2 := by decide +kernel
theorem hd_X8_put : yX8_put.cls ≠ "java/lang/invoke/MethodHandle" ∧ yX8_put.cls ≠ "java/lang/invoke/VarHandle" ∧ (parseMethodDescriptor yX8_put.desc).map (fun d => d.parameters.length) = some 2 := by decide +kernel
theorem hd_X10_firstPlace : yX10_firstPlace.cls ≠ "java/lang/invoke/MethodHandle" ∧ yX10_firstPlace.cls ≠ "java/lang/invoke/VarHandle" ∧ (parseMethodDescriptor yX10_firstPlace.desc).map (fun d => d.parameters.length) = some 1 := by decide +kernel
theorem hd_X10_placeBefore : yX10_placeBefore.cls ≠ "java/lang/invoke/MethodHandle" ∧ yX10_placeBefore.cls ≠ "java/lang/invoke/VarHandle" ∧ (parseMethodDescriptor yX10_placeBefore.desc).map (fun d => d.parameters.length) = some 2 := by decide +kernel
theorem hd_X6_goBack : yX6_goBack.cls ≠ "java/lang/invoke/MethodHandle" ∧ yX6_goBack.cls ≠ "java/lang/invoke/VarHandle" ∧ (parseMethodDescriptor yX6_goBack.desc).map (fun d => d.parameters.length) = some 2 := by decide +kernel
theorem hd_X6_writeExtra : yX6_writeExtra.cls ≠ "java/lang/invoke/MethodHandle" ∧ yX6_writeExtra.cls ≠ "java/lang/invoke/VarHandle" ∧ (parseMethodDescriptor yX6_writeExtra.desc).map (fun d => d.parameters.length) = some 3 := by decide +kernel
theorem hd_X6_writeStates : yX6_writeStates.cls ≠ "java/lang/invoke/MethodHandle" ∧ yX6_writeStates.cls ≠ "java/lang/invoke/VarHandle" ∧ (parseMethodDescriptor yX6_writeStates.desc).map (fun d => d.parameters.length) = some 1 := by decide +kernel
theorem hd_X6_writeSequences : yX6_writeSequences.cls ≠ "java/lang/invoke/MethodHandle" ∧ yX6_writeSequences.cls ≠ "java/lang/invoke/VarHandle" ∧ (parseMethodDescriptor yX6_writeSequences.desc).map (fun d => d.parameters.length) = some 0 := by decide +kernel
theorem hd_X6_writeBody : yX6_writeBody.cls ≠ "java/lang/invoke/MethodHandle" ∧ yX6_writeBody.cls ≠ "java/lang/invoke/VarHandle" ∧ (parseMethodDescriptor yX6_writeBody.desc).map (fun d => d.parameters.length) = some 2 := by decide +kernel
theorem hd_X6_writeBlock : yX6_writeBlock.cls ≠ "java/lang/invoke/MethodHandle" ∧ yX6_writeBlock.cls ≠ "java/lang/invoke/VarHandle" ∧ (parseMethodDescriptor yX6_writeBlock.desc).map (fun d => d.parameters.length) = some 3 := by decide +kernel
theorem hd_X6_packRow : yX6_packRow.cls ≠ "java/lang/invoke/MethodHandle" ∧ yX6_packRow.cls ≠ "java/lang/invoke/VarHandle" ∧ (parseMethodDescriptor yX6_packRow.desc).map (fun d => d.parameters.length) = some 5 := by decide +kernel
theorem hd_X7_init : yX7_init.cls ≠ "java/lang/invoke/MethodHandle" ∧ yX7_init.cls ≠ "java/lang/invoke/VarHandle" ∧ (parseMethodDescriptor yX7_init.desc).map (fun d => d.parameters.length) = some 0 := by decide +kernel
theorem hd_X10_buildDefault : yX10_buildDefault.cls ≠ "java/lang/invoke/MethodHandle" ∧ yX10_buildDefault.cls ≠ "java/lang/invoke/VarHandle" ∧ (parseMethodDescriptor yX10_buildDefault.desc).map (fun d => d.parameters.length) = some 1 := by decide +kernel
theorem hd_X11_init : yX11_init.cls ≠ "java/lang/invoke/MethodHandle" ∧ yX11_init.cls ≠ "java/lang/invoke/VarHandle" ∧ (parseMethodDescriptor yX11_init.desc).map (fun d => d.parameters.length) = some 0 := by decide +kernel
theorem hd_X12_init : yX12_init.cls ≠ "java/lang/invoke/MethodHandle" ∧ yX12_init.cls ≠ "java/lang/invoke/VarHandle" ∧ (parseMethodDescriptor yX12_init.desc).map (fun d => d.parameters.length) = some 0 := by decide +kernel
theorem hd_X12_feed : yX12_feed.cls ≠ "java/lang/invoke/MethodHandle" ∧ yX12_feed.cls ≠ "java/lang/invoke/VarHandle" ∧ (parseMethodDescriptor yX12_feed.desc).map (fun d => d.parameters.length) = some 2 := by decide +kernel
theorem hd_X12_fill : yX12_fill.cls ≠ "java/lang/invoke/MethodHandle" ∧ yX12_fill.cls ≠ "java/lang/invoke/VarHandle" ∧ (parseMethodDescriptor yX12_fill.desc).map (fun d => d.parameters.length) = some 3 := by decide +kernel
theorem hd_X12_size : yX12_size.cls ≠ "java/lang/invoke/MethodHandle" ∧ yX12_size.cls ≠ "java/lang/invoke/VarHandle" ∧ (parseMethodDescriptor yX12_size.desc).map (fun d => d.parameters.length) = some 0 := by decide +kernel
theorem hd_X12_set : yX12_set.cls ≠ "java/lang/invoke/MethodHandle" ∧ yX12_set.cls ≠ "java/lang/invoke/VarHandle" ∧ (parseMethodDescriptor yX12_set.desc).map (fun d => d.parameters.length) = some 2 := by decide +kernel
theorem hd_X12_cut : yX12_cut.cls ≠ "java/lang/invoke/MethodHandle" ∧ yX12_cut.cls ≠ "java/lang/invoke/VarHandle" ∧ (parseMethodDescriptor yX12_cut.desc).map (fun d => d.parameters.length) = some 1 := by decide +kernel
theorem hd_X12_again : yX12_again.cls ≠ "java/lang/invoke/MethodHandle" ∧ yX12_again.cls ≠ "java/lang/invoke/VarHandle" ∧ (parseMethodDescriptor yX12_again.desc).map (fun d => d.parameters.length) = some 2 := by decide +kernel
theorem hd_X12_swap : yX12_swap.cls ≠ "java/lang/invoke/MethodHandle" ∧ yX12_swap.cls ≠ "java/lang/invoke/VarHandle" ∧ (parseMethodDescriptor yX12_swap.desc).map (fun d => d.parameters.length) = some 0 := by decide +kernel
theorem hd_X12_differ : yX12_differ.cls ≠ "java/lang/invoke/MethodHandle" ∧ yX12_differ.cls ≠ "java/lang/invoke/VarHandle" ∧ (parseMethodDescriptor yX12_differ.desc).map (fun d => d.parameters.length) = some 0 := by decide +kernel
theorem hd_X12_unusedDictionary : yX12_unusedDictionary.cls ≠ "java/lang/invoke/MethodHandle" ∧ yX12_unusedDictionary.cls ≠ "java/lang/invoke/VarHandle" ∧ (parseMethodDescriptor yX12_unusedDictionary.desc).map (fun d => d.parameters.length) = some 0 := by decide +kernel
theorem hd_X12_keep : yX12_keep.cls ≠ "java/lang/invoke/MethodHandle" ∧ yX12_keep.cls ≠ "java/lang/invoke/VarHandle" ∧ (parseMethodDescriptor yX12_keep.desc).map (fun d => d.parameters.length) = some 0 := by decide +kernel
theorem hd_X12_spareCameOut : yX12_spareCameOut.cls ≠ "java/lang/invoke/MethodHandle" ∧ yX12_spareCameOut.cls ≠ "java/lang/invoke/VarHandle" ∧ (parseMethodDescriptor yX12_spareCameOut.desc).map (fun d => d.parameters.length) = some 0 := by decide +kernel
theorem hd_X12_open : yX12_open.cls ≠ "java/lang/invoke/MethodHandle" ∧ yX12_open.cls ≠ "java/lang/invoke/VarHandle" ∧ (parseMethodDescriptor yX12_open.desc).map (fun d => d.parameters.length) = some 1 := by decide +kernel
theorem hd_X12_place : yX12_place.cls ≠ "java/lang/invoke/MethodHandle" ∧ yX12_place.cls ≠ "java/lang/invoke/VarHandle" ∧ (parseMethodDescriptor yX12_place.desc).map (fun d => d.parameters.length) = some 0 := by decide +kernel
theorem hd_X12_pack : yX12_pack.cls ≠ "java/lang/invoke/MethodHandle" ∧ yX12_pack.cls ≠ "java/lang/invoke/VarHandle" ∧ (parseMethodDescriptor yX12_pack.desc).map (fun d => d.parameters.length) = some 2 := by decide +kernel
theorem hd_X12_out : yX12_out.cls ≠ "java/lang/invoke/MethodHandle" ∧ yX12_out.cls ≠ "java/lang/invoke/VarHandle" ∧ (parseMethodDescriptor yX12_out.desc).map (fun d => d.parameters.length) = some 1 := by decide +kernel
theorem hd_X12_sum : yX12_sum.cls ≠ "java/lang/invoke/MethodHandle" ∧ yX12_sum.cls ≠ "java/lang/invoke/VarHandle" ∧ (parseMethodDescriptor yX12_sum.desc).map (fun d => d.parameters.length) = some 1 := by decide +kernel
theorem hd_X12_told : yX12_told.cls ≠ "java/lang/invoke/MethodHandle" ∧ yX12_told.cls ≠ "java/lang/invoke/VarHandle" ∧ (parseMethodDescriptor yX12_told.desc).map (fun d => d.parameters.length) = some 1 := by decide +kernel
theorem hd_X12_sequence : yX12_sequence.cls ≠ "java/lang/invoke/MethodHandle" ∧ yX12_sequence.cls ≠ "java/lang/invoke/VarHandle" ∧ (parseMethodDescriptor yX12_sequence.desc).map (fun d => d.parameters.length) = some 2 := by decide +kernel
theorem hd_X12_table : yX12_table.cls ≠ "java/lang/invoke/MethodHandle" ∧ yX12_table.cls ≠ "java/lang/invoke/VarHandle" ∧ (parseMethodDescriptor yX12_table.desc).map (fun d => d.parameters.length) = some 3 := by decide +kernel
theorem hd_X12_bits : yX12_bits.cls ≠ "java/lang/invoke/MethodHandle" ∧ yX12_bits.cls ≠ "java/lang/invoke/VarHandle" ∧ (parseMethodDescriptor yX12_bits.desc).map (fun d => d.parameters.length) = some 1 := by decide +kernel
theorem hd_X13_init : yX13_init.cls ≠ "java/lang/invoke/MethodHandle" ∧ yX13_init.cls ≠ "java/lang/invoke/VarHandle" ∧ (parseMethodDescriptor yX13_init.desc).map (fun d => d.parameters.length) = some 0 := by decide +kernel
theorem hd_X13_feed : yX13_feed.cls ≠ "java/lang/invoke/MethodHandle" ∧ yX13_feed.cls ≠ "java/lang/invoke/VarHandle" ∧ (parseMethodDescriptor yX13_feed.desc).map (fun d => d.parameters.length) = some 2 := by decide +kernel
theorem hd_X13_fill : yX13_fill.cls ≠ "java/lang/invoke/MethodHandle" ∧ yX13_fill.cls ≠ "java/lang/invoke/VarHandle" ∧ (parseMethodDescriptor yX13_fill.desc).map (fun d => d.parameters.length) = some 3 := by decide +kernel
theorem hd_X13_size : yX13_size.cls ≠ "java/lang/invoke/MethodHandle" ∧ yX13_size.cls ≠ "java/lang/invoke/VarHandle" ∧ (parseMethodDescriptor yX13_size.desc).map (fun d => d.parameters.length) = some 0 := by decide +kernel
theorem hd_X13_set : yX13_set.cls ≠ "java/lang/invoke/MethodHandle" ∧ yX13_set.cls ≠ "java/lang/invoke/VarHandle" ∧ (parseMethodDescriptor yX13_set.desc).map (fun d => d.parameters.length) = some 2 := by decide +kernel
theorem hd_X13_cut : yX13_cut.cls ≠ "java/lang/invoke/MethodHandle" ∧ yX13_cut.cls ≠ "java/lang/invoke/VarHandle" ∧ (parseMethodDescriptor yX13_cut.desc).map (fun d => d.parameters.length) = some 1 := by decide +kernel
theorem hd_X13_again : yX13_again.cls ≠ "java/lang/invoke/MethodHandle" ∧ yX13_again.cls ≠ "java/lang/invoke/VarHandle" ∧ (parseMethodDescriptor yX13_again.desc).map (fun d => d.parameters.length) = some 2 := by decide +kernel
theorem hd_X13_swap : yX13_swap.cls ≠ "java/lang/invoke/MethodHandle" ∧ yX13_swap.cls ≠ "java/lang/invoke/VarHandle" ∧ (parseMethodDescriptor yX13_swap.desc).map (fun d => d.parameters.length) = some 0 := by decide +kernel
theorem hd_X13_differ : yX13_differ.cls ≠ "java/lang/invoke/MethodHandle" ∧ yX13_differ.cls ≠ "java/lang/invoke/VarHandle" ∧ (parseMethodDescriptor yX13_differ.desc).map (fun d => d.parameters.length) = some 0 := by decide +kernel
theorem hd_X13_out : yX13_out.cls ≠ "java/lang/invoke/MethodHandle" ∧ yX13_out.cls ≠ "java/lang/invoke/VarHandle" ∧ (parseMethodDescriptor yX13_out.desc).map (fun d => d.parameters.length) = some 1 := by decide +kernel
theorem hd_X13_place : yX13_place.cls ≠ "java/lang/invoke/MethodHandle" ∧ yX13_place.cls ≠ "java/lang/invoke/VarHandle" ∧ (parseMethodDescriptor yX13_place.desc).map (fun d => d.parameters.length) = some 0 := by decide +kernel
theorem hd_X13_fails : yX13_fails.cls ≠ "java/lang/invoke/MethodHandle" ∧ yX13_fails.cls ≠ "java/lang/invoke/VarHandle" ∧ (parseMethodDescriptor yX13_fails.desc).map (fun d => d.parameters.length) = some 2 := by decide +kernel
theorem hd_X13_turn : yX13_turn.cls ≠ "java/lang/invoke/MethodHandle" ∧ yX13_turn.cls ≠ "java/lang/invoke/VarHandle" ∧ (parseMethodDescriptor yX13_turn.desc).map (fun d => d.parameters.length) = some 2 := by decide +kernel
theorem hd_X13_round : yX13_round.cls ≠ "java/lang/invoke/MethodHandle" ∧ yX13_round.cls ≠ "java/lang/invoke/VarHandle" ∧ (parseMethodDescriptor yX13_round.desc).map (fun d => d.parameters.length) = some 2 := by decide +kernel
theorem hd_X13_eight : yX13_eight.cls ≠ "java/lang/invoke/MethodHandle" ∧ yX13_eight.cls ≠ "java/lang/invoke/VarHandle" ∧ (parseMethodDescriptor yX13_eight.desc).map (fun d => d.parameters.length) = some 3 := by decide +kernel
theorem hd_X13_sumOf : yX13_sumOf.cls ≠ "java/lang/invoke/MethodHandle" ∧ yX13_sumOf.cls ≠ "java/lang/invoke/VarHandle" ∧ (parseMethodDescriptor yX13_sumOf.desc).map (fun d => d.parameters.length) = some 3 := by decide +kernel
theorem hd_X13_sum : yX13_sum.cls ≠ "java/lang/invoke/MethodHandle" ∧ yX13_sum.cls ≠ "java/lang/invoke/VarHandle" ∧ (parseMethodDescriptor yX13_sum.desc).map (fun d => d.parameters.length) = some 1 := by decide +kernel
theorem hd_X13_forward : yX13_forward.cls ≠ "java/lang/invoke/MethodHandle" ∧ yX13_forward.cls ≠ "java/lang/invoke/VarHandle" ∧ (parseMethodDescriptor yX13_forward.desc).map (fun d => d.parameters.length) = some 1 := by decide +kernel
theorem hd_X13_log : yX13_log.cls ≠ "java/lang/invoke/MethodHandle" ∧ yX13_log.cls ≠ "java/lang/invoke/VarHandle" ∧ (parseMethodDescriptor yX13_log.desc).map (fun d => d.parameters.length) = some 1 := by decide +kernel
theorem hd_X13_reversed : yX13_reversed.cls ≠ "java/lang/invoke/MethodHandle" ∧ yX13_reversed.cls ≠ "java/lang/invoke/VarHandle" ∧ (parseMethodDescriptor yX13_reversed.desc).map (fun d => d.parameters.length) = some 2 := by decide +kernel
theorem hd_X13_back : yX13_back.cls ≠ "java/lang/invoke/MethodHandle" ∧ yX13_back.cls ≠ "java/lang/invoke/VarHandle" ∧ (parseMethodDescriptor yX13_back.desc).map (fun d => d.parameters.length) = some 1 := by decide +kernel
theorem hd_X13_table : yX13_table.cls ≠ "java/lang/invoke/MethodHandle" ∧ yX13_table.cls ≠ "java/lang/invoke/VarHandle" ∧ (parseMethodDescriptor yX13_table.desc).map (fun d => d.parameters.length) = some 1 := by decide +kernel
theorem hd_X13_alone : yX13_alone.cls ≠ "java/lang/invoke/MethodHandle" ∧ yX13_alone.cls ≠ "java/lang/invoke/VarHandle" ∧ (parseMethodDescriptor yX13_alone.desc).map (fun d => d.parameters.length) = some 2 := by decide +kernel
theorem hd_X13_copyTable : yX13_copyTable.cls ≠ "java/lang/invoke/MethodHandle" ∧ yX13_copyTable.cls ≠ "java/lang/invoke/VarHandle" ∧ (parseMethodDescriptor yX13_copyTable.desc).map (fun d => d.parameters.length) = some 2 := by decide +kernel
theorem hd_X13_noCounts : yX13_noCounts.cls ≠ "java/lang/invoke/MethodHandle" ∧ yX13_noCounts.cls ≠ "java/lang/invoke/VarHandle" ∧ (parseMethodDescriptor yX13_noCounts.desc).map (fun d => d.parameters.length) = some 0 := by decide +kernel
theorem hd_X13_toldCounts : yX13_toldCounts.cls ≠ "java/lang/invoke/MethodHandle" ∧ yX13_toldCounts.cls ≠ "java/lang/invoke/VarHandle" ∧ (parseMethodDescriptor yX13_toldCounts.desc).map (fun d => d.parameters.length) = some 4 := by decide +kernel
theorem hd_X13_mostLog : yX13_mostLog.cls ≠ "java/lang/invoke/MethodHandle" ∧ yX13_mostLog.cls ≠ "java/lang/invoke/VarHandle" ∧ (parseMethodDescriptor yX13_mostLog.desc).map (fun d => d.parameters.length) = some 1 := by decide +kernel
theorem hd_X13_greatest : yX13_greatest.cls ≠ "java/lang/invoke/MethodHandle" ∧ yX13_greatest.cls ≠ "java/lang/invoke/VarHandle" ∧ (parseMethodDescriptor yX13_greatest.desc).map (fun d => d.parameters.length) = some 1 := by decide +kernel
theorem hd_X13_defaults : yX13_defaults.cls ≠ "java/lang/invoke/MethodHandle" ∧ yX13_defaults.cls ≠ "java/lang/invoke/VarHandle" ∧ (parseMethodDescriptor yX13_defaults.desc).map (fun d => d.parameters.length) = some 2 := by decide +kernel
theorem hd_X13_copyCode : yX13_copyCode.cls ≠ "java/lang/invoke/MethodHandle" ∧ yX13_copyCode.cls ≠ "java/lang/invoke/VarHandle" ∧ (parseMethodDescriptor yX13_copyCode.desc).map (fun d => d.parameters.length) = some 2 := by decide +kernel
theorem hd_X13_toldWeights : yX13_toldWeights.cls ≠ "java/lang/invoke/MethodHandle" ∧ yX13_toldWeights.cls ≠ "java/lang/invoke/VarHandle" ∧ (parseMethodDescriptor yX13_toldWeights.desc).map (fun d => d.parameters.length) = some 2 := by decide +kernel
theorem hd_X13_codeOf : yX13_codeOf.cls ≠ "java/lang/invoke/MethodHandle" ∧ yX13_codeOf.cls ≠ "java/lang/invoke/VarHandle" ∧ (parseMethodDescriptor yX13_codeOf.desc).map (fun d => d.parameters.length) = some 2 := by decide +kernel
theorem hd_X13_code : yX13_code.cls ≠ "java/lang/invoke/MethodHandle" ∧ yX13_code.cls ≠ "java/lang/invoke/VarHandle" ∧ (parseMethodDescriptor yX13_code.desc).map (fun d => d.parameters.length) = some 3 := by decide +kernel
theorem hd_X13_content : yX13_content.cls ≠ "java/lang/invoke/MethodHandle" ∧ yX13_content.cls ≠ "java/lang/invoke/VarHandle" ∧ (parseMethodDescriptor yX13_content.desc).map (fun d => d.parameters.length) = some 1 := by decide +kernel
theorem hd_X13_tabled : yX13_tabled.cls ≠ "java/lang/invoke/MethodHandle" ∧ yX13_tabled.cls ≠ "java/lang/invoke/VarHandle" ∧ (parseMethodDescriptor yX13_tabled.desc).map (fun d => d.parameters.length) = some 0 := by decide +kernel
theorem hd_X13_keep : yX13_keep.cls ≠ "java/lang/invoke/MethodHandle" ∧ yX13_keep.cls ≠ "java/lang/invoke/VarHandle" ∧ (parseMethodDescriptor yX13_keep.desc).map (fun d => d.parameters.length) = some 0 := by decide +kernel
theorem hd_X13_wants : yX13_wants.cls ≠ "java/lang/invoke/MethodHandle" ∧ yX13_wants.cls ≠ "java/lang/invoke/VarHandle" ∧ (parseMethodDescriptor yX13_wants.desc).map (fun d => d.parameters.length) = some 1 := by decide +kernel
theorem hd_X13_begin : yX13_begin.cls ≠ "java/lang/invoke/MethodHandle" ∧ yX13_begin.cls ≠ "java/lang/invoke/VarHandle" ∧ (parseMethodDescriptor yX13_begin.desc).map (fun d => d.parameters.length) = some 1 := by decide +kernel
theorem hd_X13_stream : yX13_stream.cls ≠ "java/lang/invoke/MethodHandle" ∧ yX13_stream.cls ≠ "java/lang/invoke/VarHandle" ∧ (parseMethodDescriptor yX13_stream.desc).map (fun d => d.parameters.length) = some 4 := by decide +kernel
theorem hd_X13_streams : yX13_streams.cls ≠ "java/lang/invoke/MethodHandle" ∧ yX13_streams.cls ≠ "java/lang/invoke/VarHandle" ∧ (parseMethodDescriptor yX13_streams.desc).map (fun d => d.parameters.length) = some 3 := by decide +kernel
theorem hd_X13_lettersFrom : yX13_lettersFrom.cls ≠ "java/lang/invoke/MethodHandle" ∧ yX13_lettersFrom.cls ≠ "java/lang/invoke/VarHandle" ∧ (parseMethodDescriptor yX13_lettersFrom.desc).map (fun d => d.parameters.length) = some 2 := by decide +kernel
theorem hd_X13_toldTable : yX13_toldTable.cls ≠ "java/lang/invoke/MethodHandle" ∧ yX13_toldTable.cls ≠ "java/lang/invoke/VarHandle" ∧ (parseMethodDescriptor yX13_toldTable.desc).map (fun d => d.parameters.length) = some 4 := by decide +kernel
theorem hd_X13_copyBase : yX13_copyBase.cls ≠ "java/lang/invoke/MethodHandle" ∧ yX13_copyBase.cls ≠ "java/lang/invoke/VarHandle" ∧ (parseMethodDescriptor yX13_copyBase.desc).map (fun d => d.parameters.length) = some 1 := by decide +kernel
theorem hd_X13_copyBits : yX13_copyBits.cls ≠ "java/lang/invoke/MethodHandle" ∧ yX13_copyBits.cls ≠ "java/lang/invoke/VarHandle" ∧ (parseMethodDescriptor yX13_copyBits.desc).map (fun d => d.parameters.length) = some 1 := by decide +kernel
theorem hd_X13_letterBase : yX13_letterBase.cls ≠ "java/lang/invoke/MethodHandle" ∧ yX13_letterBase.cls ≠ "java/lang/invoke/VarHandle" ∧ (parseMethodDescriptor yX13_letterBase.desc).map (fun d => d.parameters.length) = some 1 := by decide +kernel
theorem hd_X13_letterBits : yX13_letterBits.cls ≠ "java/lang/invoke/MethodHandle" ∧ yX13_letterBits.cls ≠ "java/lang/invoke/VarHandle" ∧ (parseMethodDescriptor yX13_letterBits.desc).map (fun d => d.parameters.length) = some 1 := by decide +kernel
theorem hd_X13_meant : yX13_meant.cls ≠ "java/lang/invoke/MethodHandle" ∧ yX13_meant.cls ≠ "java/lang/invoke/VarHandle" ∧ (parseMethodDescriptor yX13_meant.desc).map (fun d => d.parameters.length) = some 2 := by decide +kernel
theorem hd_X13_offsetOf : yX13_offsetOf.cls ≠ "java/lang/invoke/MethodHandle" ∧ yX13_offsetOf.cls ≠ "java/lang/invoke/VarHandle" ∧ (parseMethodDescriptor yX13_offsetOf.desc).map (fun d => d.parameters.length) = some 3 := by decide +kernel
theorem hd_X13_sequence : yX13_sequence.cls ≠ "java/lang/invoke/MethodHandle" ∧ yX13_sequence.cls ≠ "java/lang/invoke/VarHandle" ∧ (parseMethodDescriptor yX13_sequence.desc).map (fun d => d.parameters.length) = some 4 := by decide +kernel
theorem hd_X13_all : yX13_all.cls ≠ "java/lang/invoke/MethodHandle" ∧ yX13_all.cls ≠ "java/lang/invoke/VarHandle" ∧ (parseMethodDescriptor yX13_all.desc).map (fun d => d.parameters.length) = some 3 := by decide +kernel
theorem hd_X13_sections : yX13_sections.cls ≠ "java/lang/invoke/MethodHandle" ∧ yX13_sections.cls ≠ "java/lang/invoke/VarHandle" ∧ (parseMethodDescriptor yX13_sections.desc).map (fun d => d.parameters.length) = some 2 := by decide +kernel
theorem hd_X13_packed : yX13_packed.cls ≠ "java/lang/invoke/MethodHandle" ∧ yX13_packed.cls ≠ "java/lang/invoke/VarHandle" ∧ (parseMethodDescriptor yX13_packed.desc).map (fun d => d.parameters.length) = some 2 := by decide +kernel
theorem hd_X13_blockAt : yX13_blockAt.cls ≠ "java/lang/invoke/MethodHandle" ∧ yX13_blockAt.cls ≠ "java/lang/invoke/VarHandle" ∧ (parseMethodDescriptor yX13_blockAt.desc).map (fun d => d.parameters.length) = some 0 := by decide +kernel
theorem hd_X13_sized : yX13_sized.cls ≠ "java/lang/invoke/MethodHandle" ∧ yX13_sized.cls ≠ "java/lang/invoke/VarHandle" ∧ (parseMethodDescriptor yX13_sized.desc).map (fun d => d.parameters.length) = some 4 := by decide +kernel
theorem hd_X13_head : yX13_head.cls ≠ "java/lang/invoke/MethodHandle" ∧ yX13_head.cls ≠ "java/lang/invoke/VarHandle" ∧ (parseMethodDescriptor yX13_head.desc).map (fun d => d.parameters.length) = some 1 := by decide +kernel
theorem hd_X13_frame : yX13_frame.cls ≠ "java/lang/invoke/MethodHandle" ∧ yX13_frame.cls ≠ "java/lang/invoke/VarHandle" ∧ (parseMethodDescriptor yX13_frame.desc).map (fun d => d.parameters.length) = some 1 := by decide +kernel
theorem hd_X13_open : yX13_open.cls ≠ "java/lang/invoke/MethodHandle" ∧ yX13_open.cls ≠ "java/lang/invoke/VarHandle" ∧ (parseMethodDescriptor yX13_open.desc).map (fun d => d.parameters.length) = some 1 := by decide +kernel
theorem hd_X13_told : yX13_told.cls ≠ "java/lang/invoke/MethodHandle" ∧ yX13_told.cls ≠ "java/lang/invoke/VarHandle" ∧ (parseMethodDescriptor yX13_told.desc).map (fun d => d.parameters.length) = some 1 := by decide +kernel
theorem hd_X13_sequence_ : yX13_sequence_.cls ≠ "java/lang/invoke/MethodHandle" ∧ yX13_sequence_.cls ≠ "java/lang/invoke/VarHandle" ∧ (parseMethodDescriptor yX13_sequence_.desc).map (fun d => d.parameters.length) = some 2 := by decide +kernel
theorem hd_X13_table_ : yX13_table_.cls ≠ "java/lang/invoke/MethodHandle" ∧ yX13_table_.cls ≠ "java/lang/invoke/VarHandle" ∧ (parseMethodDescriptor yX13_table_.desc).map (fun d => d.parameters.length) = some 3 := by decide +kernel
theorem hd_X13_bits : yX13_bits.cls ≠ "java/lang/invoke/MethodHandle" ∧ yX13_bits.cls ≠ "java/lang/invoke/VarHandle" ∧ (parseMethodDescriptor yX13_bits.desc).map (fun d => d.parameters.length) = some 1 := by decide +kernel
theorem hd_X13_say : yX13_say.cls ≠ "java/lang/invoke/MethodHandle" ∧ yX13_say.cls ≠ "java/lang/invoke/VarHandle" ∧ (parseMethodDescriptor yX13_say.desc).map (fun d => d.parameters.length) = some 2 := by decide +kernel
theorem hd_X13_digit : yX13_digit.cls ≠ "java/lang/invoke/MethodHandle" ∧ yX13_digit.cls ≠ "java/lang/invoke/VarHandle" ∧ (parseMethodDescriptor yX13_digit.desc).map (fun d => d.parameters.length) = some 2 := by decide +kernel
theorem hd_X13_sayDigits : yX13_sayDigits.cls ≠ "java/lang/invoke/MethodHandle" ∧ yX13_sayDigits.cls ≠ "java/lang/invoke/VarHandle" ∧ (parseMethodDescriptor yX13_sayDigits.desc).map (fun d => d.parameters.length) = some 0 := by decide +kernel
theorem hd_X13_areSame : yX13_areSame.cls ≠ "java/lang/invoke/MethodHandle" ∧ yX13_areSame.cls ≠ "java/lang/invoke/VarHandle" ∧ (parseMethodDescriptor yX13_areSame.desc).map (fun d => d.parameters.length) = some 3 := by decide +kernel
theorem hd_X13_valueOf : yX13_valueOf.cls ≠ "java/lang/invoke/MethodHandle" ∧ yX13_valueOf.cls ≠ "java/lang/invoke/VarHandle" ∧ (parseMethodDescriptor yX13_valueOf.desc).map (fun d => d.parameters.length) = some 2 := by decide +kernel
theorem hd_X13_findActs : yX13_findActs.cls ≠ "java/lang/invoke/MethodHandle" ∧ yX13_findActs.cls ≠ "java/lang/invoke/VarHandle" ∧ (parseMethodDescriptor yX13_findActs.desc).map (fun d => d.parameters.length) = some 2 := by decide +kernel
theorem hd_X13_sayHead : yX13_sayHead.cls ≠ "java/lang/invoke/MethodHandle" ∧ yX13_sayHead.cls ≠ "java/lang/invoke/VarHandle" ∧ (parseMethodDescriptor yX13_sayHead.desc).map (fun d => d.parameters.length) = some 1 := by decide +kernel
theorem hd_X13_areCoded : yX13_areCoded.cls ≠ "java/lang/invoke/MethodHandle" ∧ yX13_areCoded.cls ≠ "java/lang/invoke/VarHandle" ∧ (parseMethodDescriptor yX13_areCoded.desc).map (fun d => d.parameters.length) = some 0 := by decide +kernel
theorem hd_X13_least : yX13_least.cls ≠ "java/lang/invoke/MethodHandle" ∧ yX13_least.cls ≠ "java/lang/invoke/VarHandle" ∧ (parseMethodDescriptor yX13_least.desc).map (fun d => d.parameters.length) = some 1 := by decide +kernel
theorem hd_X13_depths : yX13_depths.cls ≠ "java/lang/invoke/MethodHandle" ∧ yX13_depths.cls ≠ "java/lang/invoke/VarHandle" ∧ (parseMethodDescriptor yX13_depths.desc).map (fun d => d.parameters.length) = some 0 := by decide +kernel
theorem hd_X13_sayCode : yX13_sayCode.cls ≠ "java/lang/invoke/MethodHandle" ∧ yX13_sayCode.cls ≠ "java/lang/invoke/VarHandle" ∧ (parseMethodDescriptor yX13_sayCode.desc).map (fun d => d.parameters.length) = some 0 := by decide +kernel
theorem hd_X13_stream_ : yX13_stream_.cls ≠ "java/lang/invoke/MethodHandle" ∧ yX13_stream_.cls ≠ "java/lang/invoke/VarHandle" ∧ (parseMethodDescriptor yX13_stream_.desc).map (fun d => d.parameters.length) = some 2 := by decide +kernel
theorem hd_X13_sayStreams : yX13_sayStreams.cls ≠ "java/lang/invoke/MethodHandle" ∧ yX13_sayStreams.cls ≠ "java/lang/invoke/VarHandle" ∧ (parseMethodDescriptor yX13_sayStreams.desc).map (fun d => d.parameters.length) = some 1 := by decide +kernel
theorem hd_X13_sayLetters : yX13_sayLetters.cls ≠ "java/lang/invoke/MethodHandle" ∧ yX13_sayLetters.cls ≠ "java/lang/invoke/VarHandle" ∧ (parseMethodDescriptor yX13_sayLetters.desc).map (fun d => d.parameters.length) = some 1 := by decide +kernel
theorem hd_X13_letterSymbol : yX13_letterSymbol.cls ≠ "java/lang/invoke/MethodHandle" ∧ yX13_letterSymbol.cls ≠ "java/lang/invoke/VarHandle" ∧ (parseMethodDescriptor yX13_letterSymbol.desc).map (fun d => d.parameters.length) = some 1 := by decide +kernel
theorem hd_X13_logLong : yX13_logLong.cls ≠ "java/lang/invoke/MethodHandle" ∧ yX13_logLong.cls ≠ "java/lang/invoke/VarHandle" ∧ (parseMethodDescriptor yX13_logLong.desc).map (fun d => d.parameters.length) = some 1 := by decide +kernel
theorem hd_X13_copySymbol : yX13_copySymbol.cls ≠ "java/lang/invoke/MethodHandle" ∧ yX13_copySymbol.cls ≠ "java/lang/invoke/VarHandle" ∧ (parseMethodDescriptor yX13_copySymbol.desc).map (fun d => d.parameters.length) = some 1 := by decide +kernel
theorem hd_X13_bit : yX13_bit.cls ≠ "java/lang/invoke/MethodHandle" ∧ yX13_bit.cls ≠ "java/lang/invoke/VarHandle" ∧ (parseMethodDescriptor yX13_bit.desc).map (fun d => d.parameters.length) = some 2 := by decide +kernel
theorem hd_X13_sayCounts : yX13_sayCounts.cls ≠ "java/lang/invoke/MethodHandle" ∧ yX13_sayCounts.cls ≠ "java/lang/invoke/VarHandle" ∧ (parseMethodDescriptor yX13_sayCounts.desc).map (fun d => d.parameters.length) = some 1 := by decide +kernel
theorem hd_X13_sayTable : yX13_sayTable.cls ≠ "java/lang/invoke/MethodHandle" ∧ yX13_sayTable.cls ≠ "java/lang/invoke/VarHandle" ∧ (parseMethodDescriptor yX13_sayTable.desc).map (fun d => d.parameters.length) = some 2 := by decide +kernel
theorem hd_X13_states : yX13_states.cls ≠ "java/lang/invoke/MethodHandle" ∧ yX13_states.cls ≠ "java/lang/invoke/VarHandle" ∧ (parseMethodDescriptor yX13_states.desc).map (fun d => d.parameters.length) = some 1 := by decide +kernel
theorem hd_X13_goOn : yX13_goOn.cls ≠ "java/lang/invoke/MethodHandle" ∧ yX13_goOn.cls ≠ "java/lang/invoke/VarHandle" ∧ (parseMethodDescriptor yX13_goOn.desc).map (fun d => d.parameters.length) = some 2 := by decide +kernel
theorem hd_X13_saySequences : yX13_saySequences.cls ≠ "java/lang/invoke/MethodHandle" ∧ yX13_saySequences.cls ≠ "java/lang/invoke/VarHandle" ∧ (parseMethodDescriptor yX13_saySequences.desc).map (fun d => d.parameters.length) = some 1 := by decide +kernel
theorem hd_X13_sayBlock : yX13_sayBlock.cls ≠ "java/lang/invoke/MethodHandle" ∧ yX13_sayBlock.cls ≠ "java/lang/invoke/VarHandle" ∧ (parseMethodDescriptor yX13_sayBlock.desc).map (fun d => d.parameters.length) = some 3 := by decide +kernel
theorem hd_X13_pack : yX13_pack.cls ≠ "java/lang/invoke/MethodHandle" ∧ yX13_pack.cls ≠ "java/lang/invoke/VarHandle" ∧ (parseMethodDescriptor yX13_pack.desc).map (fun d => d.parameters.length) = some 2 := by decide +kernel
