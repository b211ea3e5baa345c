def pg_code (mi : Nat) : Cond := .code (pg_y mi) (pg_cd mi) (pg_met mi).1 (pg_met mi).2.2
set_option maxRecDepth 100000 in
theorem pg_c1 : tables_1_1.filter k2_isCode = (List.range' 1 1).map pg_code ++ [Cond.code objectInit ⟨#[0xb1]⟩ 1 none] ++ (List.range' 2 6).map pg_code := rfl
set_option maxRecDepth 100000 in
theorem pg_c2 : tables_1_2.filter k2_isCode = (List.range' 8 22).map pg_code := rfl
set_option maxRecDepth 100000 in
theorem pg_c3 : tables_1_3.filter k2_isCode = (List.range' 30 52).map pg_code := rfl
set_option maxRecDepth 100000 in
theorem pg_c4 : tables_1_4.filter k2_isCode = (List.range' 82 55).map pg_code := rfl
set_option maxRecDepth 100000 in
theorem pg_c5 : tables_1_5.filter k2_isCode = (List.range' 137 55).map pg_code := rfl
set_option maxRecDepth 100000 in
theorem pg_c6 : tables_1_6.filter k2_isCode = (List.range' 192 33).map pg_code := rfl
set_option maxRecDepth 100000 in
theorem pg_c7 : tables_1_7.filter k2_isCode = (List.range' 225 59).map pg_code := rfl
set_option maxRecDepth 100000 in
theorem pg_c8 : tables_1_8.filter k2_isCode = (List.range' 284 34).map pg_code := rfl
