def sh_X9_addSlice (F : Nat) (c_t_high : Int) (c_t_wide : Int) (c_t_acts : Int) (c_t_next : Int) (f_t_now : Nat → Int) (f_t_diary : Nat → Int) (p0 : Int) (p1 : Int) (p2 : Int) : Option (Int × Int × Int × Int × (Nat → Int) × (Nat → Int)) := zkr p1 ((sh_X9_in F p1 (1 : Int) (9 : Int)).bind (fun (q2 : Int) => zkr q2 (if q2 = (0 : Int) then (sh_X9_isPoint F c_t_high c_t_wide p0).bind (fun (q5 : Int) => zkr q5 (if q5 = (0 : Int) then (sh_X9_refused F (1 : Int)).bind (fun (q32 : Int × Int) => zkr q32.1 (if q32.1 = (0 : Int) then (sh_X9_note F c_t_acts c_t_next f_t_now f_t_diary).bind (fun (q35 : Int × Int × (Nat → Int)) => zkx (((15 : Int) * p0) + (2 : Int)) 243 (zkx ((((15 : Int) * p0) + (3 : Int)) + ((2 : Int) * (f_t_now ((((15 : Int) * p0) + (2 : Int))).toNat))) 243 (zkx (((((15 : Int) * p0) + (3 : Int)) + ((2 : Int) * (f_t_now ((((15 : Int) * p0) + (2 : Int))).toNat))) + (1 : Int)) 243 (some (((va_up (va_up (va_up f_t_now (((((15 : Int) * p0) + (3 : Int)) + ((2 : Int) * (f_t_now ((((15 : Int) * p0) + (2 : Int))).toNat)))).toNat p1) ((((((15 : Int) * p0) + (3 : Int)) + ((2 : Int) * (f_t_now ((((15 : Int) * p0) + (2 : Int))).toNat))) + (1 : Int))).toNat p2) ((((15 : Int) * p0) + (2 : Int))).toNat (((va_up (va_up f_t_now (((((15 : Int) * p0) + (3 : Int)) + ((2 : Int) * (f_t_now ((((15 : Int) * p0) + (2 : Int))).toNat)))).toNat p1) ((((((15 : Int) * p0) + (3 : Int)) + ((2 : Int) * (f_t_now ((((15 : Int) * p0) + (2 : Int))).toNat))) + (1 : Int))).toNat p2) ((((15 : Int) * p0) + (2 : Int))).toNat) + (1 : Int))) ((((15 : Int) * p0) + (2 : Int))).toNat), q32.2, q35.1, q35.2.1, (va_up (va_up (va_up f_t_now (((((15 : Int) * p0) + (3 : Int)) + ((2 : Int) * (f_t_now ((((15 : Int) * p0) + (2 : Int))).toNat)))).toNat p1) ((((((15 : Int) * p0) + (3 : Int)) + ((2 : Int) * (f_t_now ((((15 : Int) * p0) + (2 : Int))).toNat))) + (1 : Int))).toNat p2) ((((15 : Int) * p0) + (2 : Int))).toNat (((va_up (va_up f_t_now (((((15 : Int) * p0) + (3 : Int)) + ((2 : Int) * (f_t_now ((((15 : Int) * p0) + (2 : Int))).toNat)))).toNat p1) ((((((15 : Int) * p0) + (3 : Int)) + ((2 : Int) * (f_t_now ((((15 : Int) * p0) + (2 : Int))).toNat))) + (1 : Int))).toNat p2) ((((15 : Int) * p0) + (2 : Int))).toNat) + (1 : Int))), q35.2.2))))) else some ((0 : Int), q32.2, c_t_acts, c_t_next, f_t_now, f_t_diary))) else if (0 : Int) = (0 : Int) then (sh_X9_refused F (2 : Int)).bind (fun (q24 : Int × Int) => zkr q24.1 (if q24.1 = (0 : Int) then (sh_X9_note F c_t_acts c_t_next f_t_now f_t_diary).bind (fun (q27 : Int × Int × (Nat → Int)) => zkx (((15 : Int) * p0) + (2 : Int)) 243 (zkx ((((15 : Int) * p0) + (3 : Int)) + ((2 : Int) * (f_t_now ((((15 : Int) * p0) + (2 : Int))).toNat))) 243 (zkx (((((15 : Int) * p0) + (3 : Int)) + ((2 : Int) * (f_t_now ((((15 : Int) * p0) + (2 : Int))).toNat))) + (1 : Int)) 243 (some (((va_up (va_up (va_up f_t_now (((((15 : Int) * p0) + (3 : Int)) + ((2 : Int) * (f_t_now ((((15 : Int) * p0) + (2 : Int))).toNat)))).toNat p1) ((((((15 : Int) * p0) + (3 : Int)) + ((2 : Int) * (f_t_now ((((15 : Int) * p0) + (2 : Int))).toNat))) + (1 : Int))).toNat p2) ((((15 : Int) * p0) + (2 : Int))).toNat (((va_up (va_up f_t_now (((((15 : Int) * p0) + (3 : Int)) + ((2 : Int) * (f_t_now ((((15 : Int) * p0) + (2 : Int))).toNat)))).toNat p1) ((((((15 : Int) * p0) + (3 : Int)) + ((2 : Int) * (f_t_now ((((15 : Int) * p0) + (2 : Int))).toNat))) + (1 : Int))).toNat p2) ((((15 : Int) * p0) + (2 : Int))).toNat) + (1 : Int))) ((((15 : Int) * p0) + (2 : Int))).toNat), q24.2, q27.1, q27.2.1, (va_up (va_up (va_up f_t_now (((((15 : Int) * p0) + (3 : Int)) + ((2 : Int) * (f_t_now ((((15 : Int) * p0) + (2 : Int))).toNat)))).toNat p1) ((((((15 : Int) * p0) + (3 : Int)) + ((2 : Int) * (f_t_now ((((15 : Int) * p0) + (2 : Int))).toNat))) + (1 : Int))).toNat p2) ((((15 : Int) * p0) + (2 : Int))).toNat (((va_up (va_up f_t_now (((((15 : Int) * p0) + (3 : Int)) + ((2 : Int) * (f_t_now ((((15 : Int) * p0) + (2 : Int))).toNat)))).toNat p1) ((((((15 : Int) * p0) + (3 : Int)) + ((2 : Int) * (f_t_now ((((15 : Int) * p0) + (2 : Int))).toNat))) + (1 : Int))).toNat p2) ((((15 : Int) * p0) + (2 : Int))).toNat) + (1 : Int))), q27.2.2))))) else some ((0 : Int), q24.2, c_t_acts, c_t_next, f_t_now, f_t_diary))) else zkx (((15 : Int) * p0) + (2 : Int)) 243 (zkr (f_t_now ((((15 : Int) * p0) + (2 : Int))).toNat) (if (f_t_now ((((15 : Int) * p0) + (2 : Int))).toNat) = (6 : Int) then (sh_X9_refused F (3 : Int)).bind (fun (q17 : Int × Int) => zkr q17.1 (if q17.1 = (0 : Int) then (sh_X9_note F c_t_acts c_t_next f_t_now f_t_diary).bind (fun (q20 : Int × Int × (Nat → Int)) => zkx ((((15 : Int) * p0) + (3 : Int)) + ((2 : Int) * (f_t_now ((((15 : Int) * p0) + (2 : Int))).toNat))) 243 (zkx (((((15 : Int) * p0) + (3 : Int)) + ((2 : Int) * (f_t_now ((((15 : Int) * p0) + (2 : Int))).toNat))) + (1 : Int)) 243 (some (((va_up (va_up (va_up f_t_now (((((15 : Int) * p0) + (3 : Int)) + ((2 : Int) * (f_t_now ((((15 : Int) * p0) + (2 : Int))).toNat)))).toNat p1) ((((((15 : Int) * p0) + (3 : Int)) + ((2 : Int) * (f_t_now ((((15 : Int) * p0) + (2 : Int))).toNat))) + (1 : Int))).toNat p2) ((((15 : Int) * p0) + (2 : Int))).toNat (((va_up (va_up f_t_now (((((15 : Int) * p0) + (3 : Int)) + ((2 : Int) * (f_t_now ((((15 : Int) * p0) + (2 : Int))).toNat)))).toNat p1) ((((((15 : Int) * p0) + (3 : Int)) + ((2 : Int) * (f_t_now ((((15 : Int) * p0) + (2 : Int))).toNat))) + (1 : Int))).toNat p2) ((((15 : Int) * p0) + (2 : Int))).toNat) + (1 : Int))) ((((15 : Int) * p0) + (2 : Int))).toNat), q17.2, q20.1, q20.2.1, (va_up (va_up (va_up f_t_now (((((15 : Int) * p0) + (3 : Int)) + ((2 : Int) * (f_t_now ((((15 : Int) * p0) + (2 : Int))).toNat)))).toNat p1) ((((((15 : Int) * p0) + (3 : Int)) + ((2 : Int) * (f_t_now ((((15 : Int) * p0) + (2 : Int))).toNat))) + (1 : Int))).toNat p2) ((((15 : Int) * p0) + (2 : Int))).toNat (((va_up (va_up f_t_now (((((15 : Int) * p0) + (3 : Int)) + ((2 : Int) * (f_t_now ((((15 : Int) * p0) + (2 : Int))).toNat)))).toNat p1) ((((((15 : Int) * p0) + (3 : Int)) + ((2 : Int) * (f_t_now ((((15 : Int) * p0) + (2 : Int))).toNat))) + (1 : Int))).toNat p2) ((((15 : Int) * p0) + (2 : Int))).toNat) + (1 : Int))), q20.2.2)))) else some ((0 : Int), q17.2, c_t_acts, c_t_next, f_t_now, f_t_diary))) else (sh_X9_refused F (0 : Int)).bind (fun (q10 : Int × Int) => zkr q10.1 (if q10.1 = (0 : Int) then (sh_X9_note F c_t_acts c_t_next f_t_now f_t_diary).bind (fun (q13 : Int × Int × (Nat → Int)) => zkx ((((15 : Int) * p0) + (3 : Int)) + ((2 : Int) * (f_t_now ((((15 : Int) * p0) + (2 : Int))).toNat))) 243 (zkx (((((15 : Int) * p0) + (3 : Int)) + ((2 : Int) * (f_t_now ((((15 : Int) * p0) + (2 : Int))).toNat))) + (1 : Int)) 243 (some (((va_up (va_up (va_up f_t_now (((((15 : Int) * p0) + (3 : Int)) + ((2 : Int) * (f_t_now ((((15 : Int) * p0) + (2 : Int))).toNat)))).toNat p1) ((((((15 : Int) * p0) + (3 : Int)) + ((2 : Int) * (f_t_now ((((15 : Int) * p0) + (2 : Int))).toNat))) + (1 : Int))).toNat p2) ((((15 : Int) * p0) + (2 : Int))).toNat (((va_up (va_up f_t_now (((((15 : Int) * p0) + (3 : Int)) + ((2 : Int) * (f_t_now ((((15 : Int) * p0) + (2 : Int))).toNat)))).toNat p1) ((((((15 : Int) * p0) + (3 : Int)) + ((2 : Int) * (f_t_now ((((15 : Int) * p0) + (2 : Int))).toNat))) + (1 : Int))).toNat p2) ((((15 : Int) * p0) + (2 : Int))).toNat) + (1 : Int))) ((((15 : Int) * p0) + (2 : Int))).toNat), q10.2, q13.1, q13.2.1, (va_up (va_up (va_up f_t_now (((((15 : Int) * p0) + (3 : Int)) + ((2 : Int) * (f_t_now ((((15 : Int) * p0) + (2 : Int))).toNat)))).toNat p1) ((((((15 : Int) * p0) + (3 : Int)) + ((2 : Int) * (f_t_now ((((15 : Int) * p0) + (2 : Int))).toNat))) + (1 : Int))).toNat p2) ((((15 : Int) * p0) + (2 : Int))).toNat (((va_up (va_up f_t_now (((((15 : Int) * p0) + (3 : Int)) + ((2 : Int) * (f_t_now ((((15 : Int) * p0) + (2 : Int))).toNat)))).toNat p1) ((((((15 : Int) * p0) + (3 : Int)) + ((2 : Int) * (f_t_now ((((15 : Int) * p0) + (2 : Int))).toNat))) + (1 : Int))).toNat p2) ((((15 : Int) * p0) + (2 : Int))).toNat) + (1 : Int))), q13.2.2)))) else some ((0 : Int), q10.2, c_t_acts, c_t_next, f_t_now, f_t_diary))))))) else zkr p2 ((sh_X9_in F p2 (0 : Int) (9 : Int)).bind (fun (q41 : Int) => zkr q41 (if q41 = (0 : Int) then (sh_X9_isPoint F c_t_high c_t_wide p0).bind (fun (q44 : Int) => zkr q44 (if q44 = (0 : Int) then (sh_X9_refused F (1 : Int)).bind (fun (q71 : Int × Int) => zkr q71.1 (if q71.1 = (0 : Int) then (sh_X9_note F c_t_acts c_t_next f_t_now f_t_diary).bind (fun (q74 : Int × Int × (Nat → Int)) => zkx (((15 : Int) * p0) + (2 : Int)) 243 (zkx ((((15 : Int) * p0) + (3 : Int)) + ((2 : Int) * (f_t_now ((((15 : Int) * p0) + (2 : Int))).toNat))) 243 (zkx (((((15 : Int) * p0) + (3 : Int)) + ((2 : Int) * (f_t_now ((((15 : Int) * p0) + (2 : Int))).toNat))) + (1 : Int)) 243 (some (((va_up (va_up (va_up f_t_now (((((15 : Int) * p0) + (3 : Int)) + ((2 : Int) * (f_t_now ((((15 : Int) * p0) + (2 : Int))).toNat)))).toNat p1) ((((((15 : Int) * p0) + (3 : Int)) + ((2 : Int) * (f_t_now ((((15 : Int) * p0) + (2 : Int))).toNat))) + (1 : Int))).toNat p2) ((((15 : Int) * p0) + (2 : Int))).toNat (((va_up (va_up f_t_now (((((15 : Int) * p0) + (3 : Int)) + ((2 : Int) * (f_t_now ((((15 : Int) * p0) + (2 : Int))).toNat)))).toNat p1) ((((((15 : Int) * p0) + (3 : Int)) + ((2 : Int) * (f_t_now ((((15 : Int) * p0) + (2 : Int))).toNat))) + (1 : Int))).toNat p2) ((((15 : Int) * p0) + (2 : Int))).toNat) + (1 : Int))) ((((15 : Int) * p0) + (2 : Int))).toNat), q71.2, q74.1, q74.2.1, (va_up (va_up (va_up f_t_now (((((15 : Int) * p0) + (3 : Int)) + ((2 : Int) * (f_t_now ((((15 : Int) * p0) + (2 : Int))).toNat)))).toNat p1) ((((((15 : Int) * p0) + (3 : Int)) + ((2 : Int) * (f_t_now ((((15 : Int) * p0) + (2 : Int))).toNat))) + (1 : Int))).toNat p2) ((((15 : Int) * p0) + (2 : Int))).toNat (((va_up (va_up f_t_now (((((15 : Int) * p0) + (3 : Int)) + ((2 : Int) * (f_t_now ((((15 : Int) * p0) + (2 : Int))).toNat)))).toNat p1) ((((((15 : Int) * p0) + (3 : Int)) + ((2 : Int) * (f_t_now ((((15 : Int) * p0) + (2 : Int))).toNat))) + (1 : Int))).toNat p2) ((((15 : Int) * p0) + (2 : Int))).toNat) + (1 : Int))), q74.2.2))))) else some ((0 : Int), q71.2, c_t_acts, c_t_next, f_t_now, f_t_diary))) else if (0 : Int) = (0 : Int) then (sh_X9_refused F (2 : Int)).bind (fun (q63 : Int × Int) => zkr q63.1 (if q63.1 = (0 : Int) then (sh_X9_note F c_t_acts c_t_next f_t_now f_t_diary).bind (fun (q66 : Int × Int × (Nat → Int)) => zkx (((15 : Int) * p0) + (2 : Int)) 243 (zkx ((((15 : Int) * p0) + (3 : Int)) + ((2 : Int) * (f_t_now ((((15 : Int) * p0) + (2 : Int))).toNat))) 243 (zkx (((((15 : Int) * p0) + (3 : Int)) + ((2 : Int) * (f_t_now ((((15 : Int) * p0) + (2 : Int))).toNat))) + (1 : Int)) 243 (some (((va_up (va_up (va_up f_t_now (((((15 : Int) * p0) + (3 : Int)) + ((2 : Int) * (f_t_now ((((15 : Int) * p0) + (2 : Int))).toNat)))).toNat p1) ((((((15 : Int) * p0) + (3 : Int)) + ((2 : Int) * (f_t_now ((((15 : Int) * p0) + (2 : Int))).toNat))) + (1 : Int))).toNat p2) ((((15 : Int) * p0) + (2 : Int))).toNat (((va_up (va_up f_t_now (((((15 : Int) * p0) + (3 : Int)) + ((2 : Int) * (f_t_now ((((15 : Int) * p0) + (2 : Int))).toNat)))).toNat p1) ((((((15 : Int) * p0) + (3 : Int)) + ((2 : Int) * (f_t_now ((((15 : Int) * p0) + (2 : Int))).toNat))) + (1 : Int))).toNat p2) ((((15 : Int) * p0) + (2 : Int))).toNat) + (1 : Int))) ((((15 : Int) * p0) + (2 : Int))).toNat), q63.2, q66.1, q66.2.1, (va_up (va_up (va_up f_t_now (((((15 : Int) * p0) + (3 : Int)) + ((2 : Int) * (f_t_now ((((15 : Int) * p0) + (2 : Int))).toNat)))).toNat p1) ((((((15 : Int) * p0) + (3 : Int)) + ((2 : Int) * (f_t_now ((((15 : Int) * p0) + (2 : Int))).toNat))) + (1 : Int))).toNat p2) ((((15 : Int) * p0) + (2 : Int))).toNat (((va_up (va_up f_t_now (((((15 : Int) * p0) + (3 : Int)) + ((2 : Int) * (f_t_now ((((15 : Int) * p0) + (2 : Int))).toNat)))).toNat p1) ((((((15 : Int) * p0) + (3 : Int)) + ((2 : Int) * (f_t_now ((((15 : Int) * p0) + (2 : Int))).toNat))) + (1 : Int))).toNat p2) ((((15 : Int) * p0) + (2 : Int))).toNat) + (1 : Int))), q66.2.2))))) else some ((0 : Int), q63.2, c_t_acts, c_t_next, f_t_now, f_t_diary))) else zkx (((15 : Int) * p0) + (2 : Int)) 243 (zkr (f_t_now ((((15 : Int) * p0) + (2 : Int))).toNat) (if (f_t_now ((((15 : Int) * p0) + (2 : Int))).toNat) = (6 : Int) then (sh_X9_refused F (3 : Int)).bind (fun (q56 : Int × Int) => zkr q56.1 (if q56.1 = (0 : Int) then (sh_X9_note F c_t_acts c_t_next f_t_now f_t_diary).bind (fun (q59 : Int × Int × (Nat → Int)) => zkx ((((15 : Int) * p0) + (3 : Int)) + ((2 : Int) * (f_t_now ((((15 : Int) * p0) + (2 : Int))).toNat))) 243 (zkx (((((15 : Int) * p0) + (3 : Int)) + ((2 : Int) * (f_t_now ((((15 : Int) * p0) + (2 : Int))).toNat))) + (1 : Int)) 243 (some (((va_up (va_up (va_up f_t_now (((((15 : Int) * p0) + (3 : Int)) + ((2 : Int) * (f_t_now ((((15 : Int) * p0) + (2 : Int))).toNat)))).toNat p1) ((((((15 : Int) * p0) + (3 : Int)) + ((2 : Int) * (f_t_now ((((15 : Int) * p0) + (2 : Int))).toNat))) + (1 : Int))).toNat p2) ((((15 : Int) * p0) + (2 : Int))).toNat (((va_up (va_up f_t_now (((((15 : Int) * p0) + (3 : Int)) + ((2 : Int) * (f_t_now ((((15 : Int) * p0) + (2 : Int))).toNat)))).toNat p1) ((((((15 : Int) * p0) + (3 : Int)) + ((2 : Int) * (f_t_now ((((15 : Int) * p0) + (2 : Int))).toNat))) + (1 : Int))).toNat p2) ((((15 : Int) * p0) + (2 : Int))).toNat) + (1 : Int))) ((((15 : Int) * p0) + (2 : Int))).toNat), q56.2, q59.1, q59.2.1, (va_up (va_up (va_up f_t_now (((((15 : Int) * p0) + (3 : Int)) + ((2 : Int) * (f_t_now ((((15 : Int) * p0) + (2 : Int))).toNat)))).toNat p1) ((((((15 : Int) * p0) + (3 : Int)) + ((2 : Int) * (f_t_now ((((15 : Int) * p0) + (2 : Int))).toNat))) + (1 : Int))).toNat p2) ((((15 : Int) * p0) + (2 : Int))).toNat (((va_up (va_up f_t_now (((((15 : Int) * p0) + (3 : Int)) + ((2 : Int) * (f_t_now ((((15 : Int) * p0) + (2 : Int))).toNat)))).toNat p1) ((((((15 : Int) * p0) + (3 : Int)) + ((2 : Int) * (f_t_now ((((15 : Int) * p0) + (2 : Int))).toNat))) + (1 : Int))).toNat p2) ((((15 : Int) * p0) + (2 : Int))).toNat) + (1 : Int))), q59.2.2)))) else some ((0 : Int), q56.2, c_t_acts, c_t_next, f_t_now, f_t_diary))) else (sh_X9_refused F (0 : Int)).bind (fun (q49 : Int × Int) => zkr q49.1 (if q49.1 = (0 : Int) then (sh_X9_note F c_t_acts c_t_next f_t_now f_t_diary).bind (fun (q52 : Int × Int × (Nat → Int)) => zkx ((((15 : Int) * p0) + (3 : Int)) + ((2 : Int) * (f_t_now ((((15 : Int) * p0) + (2 : Int))).toNat))) 243 (zkx (((((15 : Int) * p0) + (3 : Int)) + ((2 : Int) * (f_t_now ((((15 : Int) * p0) + (2 : Int))).toNat))) + (1 : Int)) 243 (some (((va_up (va_up (va_up f_t_now (((((15 : Int) * p0) + (3 : Int)) + ((2 : Int) * (f_t_now ((((15 : Int) * p0) + (2 : Int))).toNat)))).toNat p1) ((((((15 : Int) * p0) + (3 : Int)) + ((2 : Int) * (f_t_now ((((15 : Int) * p0) + (2 : Int))).toNat))) + (1 : Int))).toNat p2) ((((15 : Int) * p0) + (2 : Int))).toNat (((va_up (va_up f_t_now (((((15 : Int) * p0) + (3 : Int)) + ((2 : Int) * (f_t_now ((((15 : Int) * p0) + (2 : Int))).toNat)))).toNat p1) ((((((15 : Int) * p0) + (3 : Int)) + ((2 : Int) * (f_t_now ((((15 : Int) * p0) + (2 : Int))).toNat))) + (1 : Int))).toNat p2) ((((15 : Int) * p0) + (2 : Int))).toNat) + (1 : Int))) ((((15 : Int) * p0) + (2 : Int))).toNat), q49.2, q52.1, q52.2.1, (va_up (va_up (va_up f_t_now (((((15 : Int) * p0) + (3 : Int)) + ((2 : Int) * (f_t_now ((((15 : Int) * p0) + (2 : Int))).toNat)))).toNat p1) ((((((15 : Int) * p0) + (3 : Int)) + ((2 : Int) * (f_t_now ((((15 : Int) * p0) + (2 : Int))).toNat))) + (1 : Int))).toNat p2) ((((15 : Int) * p0) + (2 : Int))).toNat (((va_up (va_up f_t_now (((((15 : Int) * p0) + (3 : Int)) + ((2 : Int) * (f_t_now ((((15 : Int) * p0) + (2 : Int))).toNat)))).toNat p1) ((((((15 : Int) * p0) + (3 : Int)) + ((2 : Int) * (f_t_now ((((15 : Int) * p0) + (2 : Int))).toNat))) + (1 : Int))).toNat p2) ((((15 : Int) * p0) + (2 : Int))).toNat) + (1 : Int))), q52.2.2)))) else some ((0 : Int), q49.2, c_t_acts, c_t_next, f_t_now, f_t_diary))))))) else (sh_X9_isPoint F c_t_high c_t_wide p0).bind (fun (q79 : Int) => zkr q79 (if q79 = (0 : Int) then (sh_X9_refused F (1 : Int)).bind (fun (q106 : Int × Int) => zkr q106.1 (if q106.1 = (0 : Int) then (sh_X9_note F c_t_acts c_t_next f_t_now f_t_diary).bind (fun (q109 : Int × Int × (Nat → Int)) => zkx (((15 : Int) * p0) + (2 : Int)) 243 (zkx ((((15 : Int) * p0) + (3 : Int)) + ((2 : Int) * (f_t_now ((((15 : Int) * p0) + (2 : Int))).toNat))) 243 (zkx (((((15 : Int) * p0) + (3 : Int)) + ((2 : Int) * (f_t_now ((((15 : Int) * p0) + (2 : Int))).toNat))) + (1 : Int)) 243 (some (((va_up (va_up (va_up f_t_now (((((15 : Int) * p0) + (3 : Int)) + ((2 : Int) * (f_t_now ((((15 : Int) * p0) + (2 : Int))).toNat)))).toNat p1) ((((((15 : Int) * p0) + (3 : Int)) + ((2 : Int) * (f_t_now ((((15 : Int) * p0) + (2 : Int))).toNat))) + (1 : Int))).toNat p2) ((((15 : Int) * p0) + (2 : Int))).toNat (((va_up (va_up f_t_now (((((15 : Int) * p0) + (3 : Int)) + ((2 : Int) * (f_t_now ((((15 : Int) * p0) + (2 : Int))).toNat)))).toNat p1) ((((((15 : Int) * p0) + (3 : Int)) + ((2 : Int) * (f_t_now ((((15 : Int) * p0) + (2 : Int))).toNat))) + (1 : Int))).toNat p2) ((((15 : Int) * p0) + (2 : Int))).toNat) + (1 : Int))) ((((15 : Int) * p0) + (2 : Int))).toNat), q106.2, q109.1, q109.2.1, (va_up (va_up (va_up f_t_now (((((15 : Int) * p0) + (3 : Int)) + ((2 : Int) * (f_t_now ((((15 : Int) * p0) + (2 : Int))).toNat)))).toNat p1) ((((((15 : Int) * p0) + (3 : Int)) + ((2 : Int) * (f_t_now ((((15 : Int) * p0) + (2 : Int))).toNat))) + (1 : Int))).toNat p2) ((((15 : Int) * p0) + (2 : Int))).toNat (((va_up (va_up f_t_now (((((15 : Int) * p0) + (3 : Int)) + ((2 : Int) * (f_t_now ((((15 : Int) * p0) + (2 : Int))).toNat)))).toNat p1) ((((((15 : Int) * p0) + (3 : Int)) + ((2 : Int) * (f_t_now ((((15 : Int) * p0) + (2 : Int))).toNat))) + (1 : Int))).toNat p2) ((((15 : Int) * p0) + (2 : Int))).toNat) + (1 : Int))), q109.2.2))))) else some ((0 : Int), q106.2, c_t_acts, c_t_next, f_t_now, f_t_diary))) else if (1 : Int) = (0 : Int) then (sh_X9_refused F (2 : Int)).bind (fun (q98 : Int × Int) => zkr q98.1 (if q98.1 = (0 : Int) then (sh_X9_note F c_t_acts c_t_next f_t_now f_t_diary).bind (fun (q101 : Int × Int × (Nat → Int)) => zkx (((15 : Int) * p0) + (2 : Int)) 243 (zkx ((((15 : Int) * p0) + (3 : Int)) + ((2 : Int) * (f_t_now ((((15 : Int) * p0) + (2 : Int))).toNat))) 243 (zkx (((((15 : Int) * p0) + (3 : Int)) + ((2 : Int) * (f_t_now ((((15 : Int) * p0) + (2 : Int))).toNat))) + (1 : Int)) 243 (some (((va_up (va_up (va_up f_t_now (((((15 : Int) * p0) + (3 : Int)) + ((2 : Int) * (f_t_now ((((15 : Int) * p0) + (2 : Int))).toNat)))).toNat p1) ((((((15 : Int) * p0) + (3 : Int)) + ((2 : Int) * (f_t_now ((((15 : Int) * p0) + (2 : Int))).toNat))) + (1 : Int))).toNat p2) ((((15 : Int) * p0) + (2 : Int))).toNat (((va_up (va_up f_t_now (((((15 : Int) * p0) + (3 : Int)) + ((2 : Int) * (f_t_now ((((15 : Int) * p0) + (2 : Int))).toNat)))).toNat p1) ((((((15 : Int) * p0) + (3 : Int)) + ((2 : Int) * (f_t_now ((((15 : Int) * p0) + (2 : Int))).toNat))) + (1 : Int))).toNat p2) ((((15 : Int) * p0) + (2 : Int))).toNat) + (1 : Int))) ((((15 : Int) * p0) + (2 : Int))).toNat), q98.2, q101.1, q101.2.1, (va_up (va_up (va_up f_t_now (((((15 : Int) * p0) + (3 : Int)) + ((2 : Int) * (f_t_now ((((15 : Int) * p0) + (2 : Int))).toNat)))).toNat p1) ((((((15 : Int) * p0) + (3 : Int)) + ((2 : Int) * (f_t_now ((((15 : Int) * p0) + (2 : Int))).toNat))) + (1 : Int))).toNat p2) ((((15 : Int) * p0) + (2 : Int))).toNat (((va_up (va_up f_t_now (((((15 : Int) * p0) + (3 : Int)) + ((2 : Int) * (f_t_now ((((15 : Int) * p0) + (2 : Int))).toNat)))).toNat p1) ((((((15 : Int) * p0) + (3 : Int)) + ((2 : Int) * (f_t_now ((((15 : Int) * p0) + (2 : Int))).toNat))) + (1 : Int))).toNat p2) ((((15 : Int) * p0) + (2 : Int))).toNat) + (1 : Int))), q101.2.2))))) else some ((0 : Int), q98.2, c_t_acts, c_t_next, f_t_now, f_t_diary))) else zkx (((15 : Int) * p0) + (2 : Int)) 243 (zkr (f_t_now ((((15 : Int) * p0) + (2 : Int))).toNat) (if (f_t_now ((((15 : Int) * p0) + (2 : Int))).toNat) = (6 : Int) then (sh_X9_refused F (3 : Int)).bind (fun (q91 : Int × Int) => zkr q91.1 (if q91.1 = (0 : Int) then (sh_X9_note F c_t_acts c_t_next f_t_now f_t_diary).bind (fun (q94 : Int × Int × (Nat → Int)) => zkx ((((15 : Int) * p0) + (3 : Int)) + ((2 : Int) * (f_t_now ((((15 : Int) * p0) + (2 : Int))).toNat))) 243 (zkx (((((15 : Int) * p0) + (3 : Int)) + ((2 : Int) * (f_t_now ((((15 : Int) * p0) + (2 : Int))).toNat))) + (1 : Int)) 243 (some (((va_up (va_up (va_up f_t_now (((((15 : Int) * p0) + (3 : Int)) + ((2 : Int) * (f_t_now ((((15 : Int) * p0) + (2 : Int))).toNat)))).toNat p1) ((((((15 : Int) * p0) + (3 : Int)) + ((2 : Int) * (f_t_now ((((15 : Int) * p0) + (2 : Int))).toNat))) + (1 : Int))).toNat p2) ((((15 : Int) * p0) + (2 : Int))).toNat (((va_up (va_up f_t_now (((((15 : Int) * p0) + (3 : Int)) + ((2 : Int) * (f_t_now ((((15 : Int) * p0) + (2 : Int))).toNat)))).toNat p1) ((((((15 : Int) * p0) + (3 : Int)) + ((2 : Int) * (f_t_now ((((15 : Int) * p0) + (2 : Int))).toNat))) + (1 : Int))).toNat p2) ((((15 : Int) * p0) + (2 : Int))).toNat) + (1 : Int))) ((((15 : Int) * p0) + (2 : Int))).toNat), q91.2, q94.1, q94.2.1, (va_up (va_up (va_up f_t_now (((((15 : Int) * p0) + (3 : Int)) + ((2 : Int) * (f_t_now ((((15 : Int) * p0) + (2 : Int))).toNat)))).toNat p1) ((((((15 : Int) * p0) + (3 : Int)) + ((2 : Int) * (f_t_now ((((15 : Int) * p0) + (2 : Int))).toNat))) + (1 : Int))).toNat p2) ((((15 : Int) * p0) + (2 : Int))).toNat (((va_up (va_up f_t_now (((((15 : Int) * p0) + (3 : Int)) + ((2 : Int) * (f_t_now ((((15 : Int) * p0) + (2 : Int))).toNat)))).toNat p1) ((((((15 : Int) * p0) + (3 : Int)) + ((2 : Int) * (f_t_now ((((15 : Int) * p0) + (2 : Int))).toNat))) + (1 : Int))).toNat p2) ((((15 : Int) * p0) + (2 : Int))).toNat) + (1 : Int))), q94.2.2)))) else some ((0 : Int), q91.2, c_t_acts, c_t_next, f_t_now, f_t_diary))) else (sh_X9_refused F (0 : Int)).bind (fun (q84 : Int × Int) => zkr q84.1 (if q84.1 = (0 : Int) then (sh_X9_note F c_t_acts c_t_next f_t_now f_t_diary).bind (fun (q87 : Int × Int × (Nat → Int)) => zkx ((((15 : Int) * p0) + (3 : Int)) + ((2 : Int) * (f_t_now ((((15 : Int) * p0) + (2 : Int))).toNat))) 243 (zkx (((((15 : Int) * p0) + (3 : Int)) + ((2 : Int) * (f_t_now ((((15 : Int) * p0) + (2 : Int))).toNat))) + (1 : Int)) 243 (some (((va_up (va_up (va_up f_t_now (((((15 : Int) * p0) + (3 : Int)) + ((2 : Int) * (f_t_now ((((15 : Int) * p0) + (2 : Int))).toNat)))).toNat p1) ((((((15 : Int) * p0) + (3 : Int)) + ((2 : Int) * (f_t_now ((((15 : Int) * p0) + (2 : Int))).toNat))) + (1 : Int))).toNat p2) ((((15 : Int) * p0) + (2 : Int))).toNat (((va_up (va_up f_t_now (((((15 : Int) * p0) + (3 : Int)) + ((2 : Int) * (f_t_now ((((15 : Int) * p0) + (2 : Int))).toNat)))).toNat p1) ((((((15 : Int) * p0) + (3 : Int)) + ((2 : Int) * (f_t_now ((((15 : Int) * p0) + (2 : Int))).toNat))) + (1 : Int))).toNat p2) ((((15 : Int) * p0) + (2 : Int))).toNat) + (1 : Int))) ((((15 : Int) * p0) + (2 : Int))).toNat), q84.2, q87.1, q87.2.1, (va_up (va_up (va_up f_t_now (((((15 : Int) * p0) + (3 : Int)) + ((2 : Int) * (f_t_now ((((15 : Int) * p0) + (2 : Int))).toNat)))).toNat p1) ((((((15 : Int) * p0) + (3 : Int)) + ((2 : Int) * (f_t_now ((((15 : Int) * p0) + (2 : Int))).toNat))) + (1 : Int))).toNat p2) ((((15 : Int) * p0) + (2 : Int))).toNat (((va_up (va_up f_t_now (((((15 : Int) * p0) + (3 : Int)) + ((2 : Int) * (f_t_now ((((15 : Int) * p0) + (2 : Int))).toNat)))).toNat p1) ((((((15 : Int) * p0) + (3 : Int)) + ((2 : Int) * (f_t_now ((((15 : Int) * p0) + (2 : Int))).toNat))) + (1 : Int))).toNat p2) ((((15 : Int) * p0) + (2 : Int))).toNat) + (1 : Int))), q87.2.2)))) else some ((0 : Int), q84.2, c_t_acts, c_t_next, f_t_now, f_t_diary)))))))))))))
theorem mX9_addSlice_k151 : Cond.constantLong RX9 151 (9) ∈ wsX9_addSlice := List.mem_of_getElem? (i := 1) rfl
theorem mX9_addSlice_f16 : Cond.fieldLink RX9 16 (TX9 3).1 (TX9 3).2.1 (TX9 3).2.2.1 ∈ wsX9_addSlice := List.mem_of_getElem? (i := 2) rfl
theorem iX9_addSlice_X9 : ∀ w ∈ wsX90, w ∈ wsX9_addSlice := fun _ h => (List.mem_cons_of_mem _ (List.mem_append_right _ h))
set_option maxRecDepth 100000 in
set_option maxHeartbeats 4000000 in
theorem zc_X9_addSlice (l : Launch) (D : va_G) (J : Nat → ClassId) (F : Nat) (a_t : Nat) (a_t_now : Nat) (a_t_trial : Nat) (a_t_diary : Nat) (a_t_kept : Nat) (a_t_isKept : Nat) (a_t_script : Nat) (a_t_read : Nat) (a_t_wanted : Nat) (a_t_level : Nat) (a_t_chosen : Nat) (a_t_best : Nat) (c_t_refusal : Int) (c_t_high : Int) (c_t_wide : Int) (c_t_acts : Int) (c_t_next : Int) (c_t_scriptSize : Int) (c_t_spot : Int) (c_t_readHigh : Int) (c_t_readWide : Int) (f_t_now : Nat → Int) (f_t_diary : Nat → Int) (p0 : Int) (p1 : Int) (p2 : Int) (res : Int × Int × Int × Int × (Nat → Int) × (Nat → Int)) (hsh : sh_X9_addSlice F c_t_high c_t_wide c_t_acts c_t_next f_t_now f_t_diary p0 p1 p2 = some res) : ZM l D J yX9_addSlice wsX9_addSlice ({ frames := 2, cells := 0, slots := 0, locals := 46 } : Room) 0 0 [.ref a_t, .int (zi p0), .int (zi p1), .int (zi p2)] [(a_t, .inr (8, [.int (zi c_t_refusal), .int (zi c_t_high), .int (zi c_t_wide), .ref a_t_now, .ref a_t_trial, .ref a_t_diary, .int (zi c_t_acts), .int (zi c_t_next), .ref a_t_kept, .ref a_t_isKept, .ref a_t_script, .int (zi c_t_scriptSize), .int (zi c_t_spot), .ref a_t_read, .int (zi c_t_readHigh), .int (zi c_t_readWide), .ref a_t_wanted, .ref a_t_level, .ref a_t_chosen, .ref a_t_best])), (a_t_now, zI J 243 f_t_now), (a_t_diary, zI J 3402 f_t_diary)] (fun rv w9 => rv = some (.int (zi res.1)) ∧ w9 = [(a_t, .inr (8, [.int (zi res.2.1), .int (zi c_t_high), .int (zi c_t_wide), .ref a_t_now, .ref a_t_trial, .ref a_t_diary, .int (zi res.2.2.1), .int (zi res.2.2.2.1), .ref a_t_kept, .ref a_t_isKept, .ref a_t_script, .int (zi c_t_scriptSize), .int (zi c_t_spot), .ref a_t_read, .int (zi c_t_readHigh), .int (zi c_t_readWide), .ref a_t_wanted, .ref a_t_level, .ref a_t_chosen, .ref a_t_best])), (a_t_now, zI J 243 res.2.2.2.2.1), (a_t_diary, zI J 3402 res.2.2.2.2.2)]) := by
  refine z_ofZ (cc := cX9_addSlice) (maxL := 6) (ret := (some .int)) 0 0 (by decide) rfl (Nat.le_of_ble_eq_true rfl) [(0, .ref a_t), (1, .int (zi p0)), (2, .int (zi p1)), (3, .int (zi p2))] rfl ?_
  intro p e s m args below meth c A
  unfold sh_X9_addSlice at hsh
  refine z_iload_n (pc' := 1) 2 dX9_addSlice_0 rfl rfl rfl ?_
  have g1 := zkr_p hsh
  replace hsh := zkr_k hsh
  refine z_i2l (pc' := 2) dX9_addSlice_1 g1 rfl ?_
  refine z_lconst (pc' := 3) 1 dX9_addSlice_2 (by decide) rfl ?_
  refine z_ldc2 (pc' := 6) (9 : Int) dX9_addSlice_3 mX9_addSlice_k151 (by decide) rfl ?_
  obtain ⟨q2, h3, hsh⟩ := zbind hsh
  refine z_callS (pc' := 9) (As := [.long (zl p1), .long (zl (1 : Int)), .long (zl (9 : Int))]) (rest := []) (wr := [(a_t, .inr (8, [.int (zi c_t_refusal), .int (zi c_t_high), .int (zi c_t_wide), .ref a_t_now, .ref a_t_trial, .ref a_t_diary, .int (zi c_t_acts), .int (zi c_t_next), .ref a_t_kept, .ref a_t_isKept, .ref a_t_script, .int (zi c_t_scriptSize), .int (zi c_t_spot), .ref a_t_read, .int (zi c_t_readHigh), .int (zi c_t_readWide), .ref a_t_wanted, .ref a_t_level, .ref a_t_chosen, .ref a_t_best])), (a_t_now, zI J 243 f_t_now), (a_t_diary, zI J 3402 f_t_diary)]) 3 (zc_X9_in l D J F (p0 := p1) (p1 := (1 : Int)) (p2 := (9 : Int))  q2 h3) dX9_addSlice_6 gX9_addSlice_X9_in rfl rfl rfl (by decide +kernel) ⟨Nat.le_of_ble_eq_true rfl, Nat.le_of_ble_eq_true rfl⟩ ⟨Nat.le_of_ble_eq_true rfl, Nat.le_of_ble_eq_true rfl⟩ (z_spl_of [0, 1, 2] rfl rfl) rfl rfl (Nat.le_of_ble_eq_true rfl) rfl (fun rv w9 hq => ?_)
  obtain ⟨rfl, rfl⟩ := hq
  refine z_ws [(a_t, .inr (8, [.int (zi c_t_refusal), .int (zi c_t_high), .int (zi c_t_wide), .ref a_t_now, .ref a_t_trial, .ref a_t_diary, .int (zi c_t_acts), .int (zi c_t_next), .ref a_t_kept, .ref a_t_isKept, .ref a_t_script, .int (zi c_t_scriptSize), .int (zi c_t_spot), .ref a_t_read, .int (zi c_t_readHigh), .int (zi c_t_readWide), .ref a_t_wanted, .ref a_t_level, .ref a_t_chosen, .ref a_t_best])), (a_t_now, zI J 243 f_t_now), (a_t_diary, zI J 3402 f_t_diary)] rfl ?_
  have g4 := zkr_p hsh
  replace hsh := zkr_k hsh
  refine z_if_eq (pc' := 12) (tgt := 28) dX9_addSlice_9 (by decide) g4 rfl (fun q => ?_) (fun q => ?_)
  · replace hsh := zif_t q hsh
    refine z_iconst (pc' := 29) dX9_addSlice_28 rfl ?_
    refine z_istore (pc' := 31) [(4, .int (zi (0 : Int))), (0, .ref a_t), (1, .int (zi p0)), (2, .int (zi p1)), (3, .int (zi p2))] dX9_addSlice_29 (by decide) rfl rfl ?_
    refine z_aload_n (pc' := 32) 1 dX9_addSlice_31 rfl rfl rfl ?_
    refine z_aload_n (pc' := 33) 1 dX9_addSlice_32 rfl rfl rfl ?_
    refine z_iload_n (pc' := 34) 2 dX9_addSlice_33 rfl rfl rfl ?_
    obtain ⟨q5, h6, hsh⟩ := zbind hsh
    refine z_callV (pc' := 37) (C := RX9) (As := [.int (zi p0)]) (rest := [.ref a_t]) (wr := [(a_t_now, zI J 243 f_t_now), (a_t_diary, zI J 3402 f_t_diary)]) 1 (zc_X9_isPoint l D J F (a_t := a_t) (a_t_now := a_t_now) (a_t_trial := a_t_trial) (a_t_diary := a_t_diary) (a_t_kept := a_t_kept) (a_t_isKept := a_t_isKept) (a_t_script := a_t_script) (a_t_read := a_t_read) (a_t_wanted := a_t_wanted) (a_t_level := a_t_level) (a_t_chosen := a_t_chosen) (a_t_best := a_t_best) (c_t_refusal := c_t_refusal) (c_t_high := c_t_high) (c_t_wide := c_t_wide) (c_t_acts := c_t_acts) (c_t_next := c_t_next) (c_t_scriptSize := c_t_scriptSize) (c_t_spot := c_t_spot) (c_t_readHigh := c_t_readHigh) (c_t_readWide := c_t_readWide) (p0 := p0)  q5 h6) dX9_addSlice_34 gX9_addSlice_X9_isPoint rfl rfl rfl (by decide +kernel) ⟨Nat.le_of_ble_eq_true rfl, Nat.le_of_ble_eq_true rfl⟩ ⟨Nat.le_of_ble_eq_true rfl, Nat.le_of_ble_eq_true rfl⟩ (z_spl_of [0, 1, 2] rfl rfl) rfl rfl rfl rfl (Nat.le_of_ble_eq_true rfl) rfl (fun rv w9 hq => ?_)
    obtain ⟨rfl, rfl⟩ := hq
    refine z_ws [(a_t_now, zI J 243 f_t_now), (a_t_diary, zI J 3402 f_t_diary), (a_t, .inr (8, [.int (zi c_t_refusal), .int (zi c_t_high), .int (zi c_t_wide), .ref a_t_now, .ref a_t_trial, .ref a_t_diary, .int (zi c_t_acts), .int (zi c_t_next), .ref a_t_kept, .ref a_t_isKept, .ref a_t_script, .int (zi c_t_scriptSize), .int (zi c_t_spot), .ref a_t_read, .int (zi c_t_readHigh), .int (zi c_t_readWide), .ref a_t_wanted, .ref a_t_level, .ref a_t_chosen, .ref a_t_best]))] rfl ?_
    have g7 := zkr_p hsh
    replace hsh := zkr_k hsh
    refine z_if_ne (pc' := 40) (tgt := 44) dX9_addSlice_37 (by decide) g7 rfl (fun q => ?_) (fun q => ?_)
    · replace hsh := zif_f q hsh
      refine z_iload (pc' := 46) 0 dX9_addSlice_44 rfl rfl ?_
      refine z_if_ne (pc' := 49) (tgt := 53) dX9_addSlice_46 (by decide) zr0 rfl (fun q => ?_) (fun q => ?_)
      · replace hsh := zif_f q hsh
        refine z_aload_n (pc' := 54) 1 dX9_addSlice_53 rfl rfl rfl ?_
        refine z_getfield (pc' := 57) (C := RX9) (T := TX9) (N := 20) 2 3 dX9_addSlice_54 iX9_addSlice_X9 rfl rfl (by decide) mX9_addSlice_f16 rfl rfl ?_
        refine z_bipush (pc' := 59) dX9_addSlice_57 (by decide) rfl ?_
        refine z_iload_n (pc' := 60) 2 dX9_addSlice_59 rfl rfl rfl ?_
        refine z_imul (pc' := 61) dX9_addSlice_60 rfl ?_
        refine z_iconst (pc' := 62) dX9_addSlice_61 rfl ?_
        refine z_iadd (pc' := 63) dX9_addSlice_62 rfl ?_
        have g8 := zkx_p hsh
        replace hsh := zkx_k hsh
        refine z_iaload (pc' := 64) 0 dX9_addSlice_63 rfl (by decide) g8 rfl ?_
        refine z_bipush (pc' := 66) dX9_addSlice_64 (by decide) rfl ?_
        have g9 := zkr_p hsh
        replace hsh := zkr_k hsh
        refine z_icmp_ne (pc' := 69) (tgt := 73) dX9_addSlice_66 (by decide) g9 (by decide) rfl (fun q => ?_) (fun q => ?_)
        · replace hsh := zif_f q hsh
          refine z_iconst (pc' := 74) dX9_addSlice_73 rfl ?_
          obtain ⟨q10, h11, hsh⟩ := zbind hsh
          refine z_callV (pc' := 77) (C := RX9) (As := [.int (zi (0 : Int))]) (rest := []) (wr := [(a_t_now, zI J 243 f_t_now), (a_t_diary, zI J 3402 f_t_diary)]) 1 (zc_X9_refused l D J F (a_t := a_t) (a_t_now := a_t_now) (a_t_trial := a_t_trial) (a_t_diary := a_t_diary) (a_t_kept := a_t_kept) (a_t_isKept := a_t_isKept) (a_t_script := a_t_script) (a_t_read := a_t_read) (a_t_wanted := a_t_wanted) (a_t_level := a_t_level) (a_t_chosen := a_t_chosen) (a_t_best := a_t_best) (c_t_refusal := c_t_refusal) (c_t_high := c_t_high) (c_t_wide := c_t_wide) (c_t_acts := c_t_acts) (c_t_next := c_t_next) (c_t_scriptSize := c_t_scriptSize) (c_t_spot := c_t_spot) (c_t_readHigh := c_t_readHigh) (c_t_readWide := c_t_readWide) (p0 := (0 : Int))  q10 h11) dX9_addSlice_74 gX9_addSlice_X9_refused rfl rfl rfl (by decide +kernel) ⟨Nat.le_of_ble_eq_true rfl, Nat.le_of_ble_eq_true rfl⟩ ⟨Nat.le_of_ble_eq_true rfl, Nat.le_of_ble_eq_true rfl⟩ (z_spl_of [2, 0, 1] rfl rfl) rfl rfl rfl rfl (Nat.le_of_ble_eq_true rfl) rfl (fun rv w9 hq => ?_)
          obtain ⟨rfl, rfl⟩ := hq
          refine z_ws [(a_t_now, zI J 243 f_t_now), (a_t_diary, zI J 3402 f_t_diary), (a_t, .inr (8, [.int (zi q10.2), .int (zi c_t_high), .int (zi c_t_wide), .ref a_t_now, .ref a_t_trial, .ref a_t_diary, .int (zi c_t_acts), .int (zi c_t_next), .ref a_t_kept, .ref a_t_isKept, .ref a_t_script, .int (zi c_t_scriptSize), .int (zi c_t_spot), .ref a_t_read, .int (zi c_t_readHigh), .int (zi c_t_readWide), .ref a_t_wanted, .ref a_t_level, .ref a_t_chosen, .ref a_t_best]))] rfl ?_
          have g12 := zkr_p hsh
          replace hsh := zkr_k hsh
          refine z_if_eq (pc' := 80) (tgt := 82) dX9_addSlice_77 (by decide) g12 rfl (fun q => ?_) (fun q => ?_)
          · replace hsh := zif_t q hsh
            refine z_aload_n (pc' := 83) 1 dX9_addSlice_82 rfl rfl rfl ?_
            obtain ⟨q13, h14, hsh⟩ := zbind hsh
            refine z_callV (pc' := 86) (C := RX9) (As := []) (rest := []) (wr := []) 0 (zc_X9_note l D J F (a_t := a_t) (a_t_now := a_t_now) (a_t_trial := a_t_trial) (a_t_diary := a_t_diary) (a_t_kept := a_t_kept) (a_t_isKept := a_t_isKept) (a_t_script := a_t_script) (a_t_read := a_t_read) (a_t_wanted := a_t_wanted) (a_t_level := a_t_level) (a_t_chosen := a_t_chosen) (a_t_best := a_t_best) (c_t_refusal := q10.2) (c_t_high := c_t_high) (c_t_wide := c_t_wide) (c_t_acts := c_t_acts) (c_t_next := c_t_next) (c_t_scriptSize := c_t_scriptSize) (c_t_spot := c_t_spot) (c_t_readHigh := c_t_readHigh) (c_t_readWide := c_t_readWide) (f_t_now := f_t_now) (f_t_diary := f_t_diary)  q13 h14) dX9_addSlice_83 gX9_addSlice_X9_note rfl rfl rfl (by decide +kernel) ⟨Nat.le_of_ble_eq_true rfl, Nat.le_of_ble_eq_true rfl⟩ ⟨Nat.le_of_ble_eq_true rfl, Nat.le_of_ble_eq_true rfl⟩ (z_spl_of [2, 0, 1] rfl rfl) rfl rfl rfl rfl (Nat.le_of_ble_eq_true rfl) rfl (fun rv w9 hq => ?_)
            obtain ⟨rfl, rfl⟩ := hq
            refine z_ws [(a_t, .inr (8, [.int (zi q10.2), .int (zi c_t_high), .int (zi c_t_wide), .ref a_t_now, .ref a_t_trial, .ref a_t_diary, .int (zi q13.1), .int (zi q13.2.1), .ref a_t_kept, .ref a_t_isKept, .ref a_t_script, .int (zi c_t_scriptSize), .int (zi c_t_spot), .ref a_t_read, .int (zi c_t_readHigh), .int (zi c_t_readWide), .ref a_t_wanted, .ref a_t_level, .ref a_t_chosen, .ref a_t_best])), (a_t_now, zI J 243 f_t_now), (a_t_diary, zI J 3402 q13.2.2)] rfl ?_
            refine z_bipush (pc' := 88) dX9_addSlice_86 (by decide) rfl ?_
            refine z_iload_n (pc' := 89) 2 dX9_addSlice_88 rfl rfl rfl ?_
            refine z_imul (pc' := 90) dX9_addSlice_89 rfl ?_
            refine z_iconst (pc' := 91) dX9_addSlice_90 rfl ?_
            refine z_iadd (pc' := 92) dX9_addSlice_91 rfl ?_
            refine z_iconst (pc' := 93) dX9_addSlice_92 rfl ?_
            refine z_aload_n (pc' := 94) 1 dX9_addSlice_93 rfl rfl rfl ?_
            refine z_getfield (pc' := 97) (C := RX9) (T := TX9) (N := 20) 0 3 dX9_addSlice_94 iX9_addSlice_X9 rfl rfl (by decide) mX9_addSlice_f16 rfl rfl ?_
            refine z_bipush (pc' := 99) dX9_addSlice_97 (by decide) rfl ?_
            refine z_iload_n (pc' := 100) 2 dX9_addSlice_99 rfl rfl rfl ?_
            refine z_imul (pc' := 101) dX9_addSlice_100 rfl ?_
            refine z_iconst (pc' := 102) dX9_addSlice_101 rfl ?_
            refine z_iadd (pc' := 103) dX9_addSlice_102 rfl ?_
            refine z_iaload (pc' := 104) 1 dX9_addSlice_103 rfl (by decide) g8 rfl ?_
            refine z_imul (pc' := 105) dX9_addSlice_104 rfl ?_
            refine z_iadd (pc' := 106) dX9_addSlice_105 rfl ?_
            refine z_istore (pc' := 108) [(5, .int (zi ((((15 : Int) * p0) + (3 : Int)) + ((2 : Int) * (f_t_now ((((15 : Int) * p0) + (2 : Int))).toNat))))), (4, .int (zi (0 : Int))), (0, .ref a_t), (1, .int (zi p0)), (2, .int (zi p1)), (3, .int (zi p2))] dX9_addSlice_106 (by decide) rfl rfl ?_
            refine z_aload_n (pc' := 109) 2 dX9_addSlice_108 rfl rfl rfl ?_
            refine z_getfield (pc' := 112) (C := RX9) (T := TX9) (N := 20) 0 3 dX9_addSlice_109 iX9_addSlice_X9 rfl rfl (by decide) mX9_addSlice_f16 rfl rfl ?_
            refine z_iload (pc' := 114) 0 dX9_addSlice_112 rfl rfl ?_
            refine z_iload_n (pc' := 115) 4 dX9_addSlice_114 rfl rfl rfl ?_
            have g15 := zkx_p hsh
            replace hsh := zkx_k hsh
            refine z_iastore (pc' := 116) 1 [(a_t, .inr (8, [.int (zi q10.2), .int (zi c_t_high), .int (zi c_t_wide), .ref a_t_now, .ref a_t_trial, .ref a_t_diary, .int (zi q13.1), .int (zi q13.2.1), .ref a_t_kept, .ref a_t_isKept, .ref a_t_script, .int (zi c_t_scriptSize), .int (zi c_t_spot), .ref a_t_read, .int (zi c_t_readHigh), .int (zi c_t_readWide), .ref a_t_wanted, .ref a_t_level, .ref a_t_chosen, .ref a_t_best])), (a_t_now, zI J 243 (va_up f_t_now (((((15 : Int) * p0) + (3 : Int)) + ((2 : Int) * (f_t_now ((((15 : Int) * p0) + (2 : Int))).toNat)))).toNat p1)), (a_t_diary, zI J 3402 q13.2.2)] dX9_addSlice_115 rfl (by decide) g15 rfl rfl ?_
            refine z_aload_n (pc' := 117) 2 dX9_addSlice_116 rfl rfl rfl ?_
            refine z_getfield (pc' := 120) (C := RX9) (T := TX9) (N := 20) 0 3 dX9_addSlice_117 iX9_addSlice_X9 rfl rfl (by decide) mX9_addSlice_f16 rfl rfl ?_
            refine z_iload (pc' := 122) 0 dX9_addSlice_120 rfl rfl ?_
            refine z_iconst (pc' := 123) dX9_addSlice_122 rfl ?_
            refine z_iadd (pc' := 124) dX9_addSlice_123 rfl ?_
            refine z_iload_n (pc' := 125) 5 dX9_addSlice_124 rfl rfl rfl ?_
            have g16 := zkx_p hsh
            replace hsh := zkx_k hsh
            refine z_iastore (pc' := 126) 1 [(a_t, .inr (8, [.int (zi q10.2), .int (zi c_t_high), .int (zi c_t_wide), .ref a_t_now, .ref a_t_trial, .ref a_t_diary, .int (zi q13.1), .int (zi q13.2.1), .ref a_t_kept, .ref a_t_isKept, .ref a_t_script, .int (zi c_t_scriptSize), .int (zi c_t_spot), .ref a_t_read, .int (zi c_t_readHigh), .int (zi c_t_readWide), .ref a_t_wanted, .ref a_t_level, .ref a_t_chosen, .ref a_t_best])), (a_t_now, zI J 243 (va_up (va_up f_t_now (((((15 : Int) * p0) + (3 : Int)) + ((2 : Int) * (f_t_now ((((15 : Int) * p0) + (2 : Int))).toNat)))).toNat p1) ((((((15 : Int) * p0) + (3 : Int)) + ((2 : Int) * (f_t_now ((((15 : Int) * p0) + (2 : Int))).toNat))) + (1 : Int))).toNat p2)), (a_t_diary, zI J 3402 q13.2.2)] dX9_addSlice_125 rfl (by decide) g16 rfl rfl ?_
            refine z_aload_n (pc' := 127) 2 dX9_addSlice_126 rfl rfl rfl ?_
            refine z_getfield (pc' := 130) (C := RX9) (T := TX9) (N := 20) 0 3 dX9_addSlice_127 iX9_addSlice_X9 rfl rfl (by decide) mX9_addSlice_f16 rfl rfl ?_
            refine z_bipush (pc' := 132) dX9_addSlice_130 (by decide) rfl ?_
            refine z_iload_n (pc' := 133) 3 dX9_addSlice_132 rfl rfl rfl ?_
            refine z_imul (pc' := 134) dX9_addSlice_133 rfl ?_
            refine z_iconst (pc' := 135) dX9_addSlice_134 rfl ?_
            refine z_iadd (pc' := 136) dX9_addSlice_135 rfl ?_
            refine z_dup2 (pc' := 137) dX9_addSlice_136 rfl rfl rfl ?_
            refine z_iaload (pc' := 138) 1 dX9_addSlice_137 rfl (by decide) g8 rfl ?_
            refine z_iconst (pc' := 139) dX9_addSlice_138 rfl ?_
            refine z_iadd (pc' := 140) dX9_addSlice_139 rfl ?_
            refine z_iastore (pc' := 141) 1 [(a_t, .inr (8, [.int (zi q10.2), .int (zi c_t_high), .int (zi c_t_wide), .ref a_t_now, .ref a_t_trial, .ref a_t_diary, .int (zi q13.1), .int (zi q13.2.1), .ref a_t_kept, .ref a_t_isKept, .ref a_t_script, .int (zi c_t_scriptSize), .int (zi c_t_spot), .ref a_t_read, .int (zi c_t_readHigh), .int (zi c_t_readWide), .ref a_t_wanted, .ref a_t_level, .ref a_t_chosen, .ref a_t_best])), (a_t_now, zI J 243 (va_up (va_up (va_up f_t_now (((((15 : Int) * p0) + (3 : Int)) + ((2 : Int) * (f_t_now ((((15 : Int) * p0) + (2 : Int))).toNat)))).toNat p1) ((((((15 : Int) * p0) + (3 : Int)) + ((2 : Int) * (f_t_now ((((15 : Int) * p0) + (2 : Int))).toNat))) + (1 : Int))).toNat p2) ((((15 : Int) * p0) + (2 : Int))).toNat (((va_up (va_up f_t_now (((((15 : Int) * p0) + (3 : Int)) + ((2 : Int) * (f_t_now ((((15 : Int) * p0) + (2 : Int))).toNat)))).toNat p1) ((((((15 : Int) * p0) + (3 : Int)) + ((2 : Int) * (f_t_now ((((15 : Int) * p0) + (2 : Int))).toNat))) + (1 : Int))).toNat p2) ((((15 : Int) * p0) + (2 : Int))).toNat) + (1 : Int)))), (a_t_diary, zI J 3402 q13.2.2)] dX9_addSlice_140 rfl (by decide) g8 rfl rfl ?_
            refine z_aload_n (pc' := 142) 2 dX9_addSlice_141 rfl rfl rfl ?_
            refine z_getfield (pc' := 145) (C := RX9) (T := TX9) (N := 20) 0 3 dX9_addSlice_142 iX9_addSlice_X9 rfl rfl (by decide) mX9_addSlice_f16 rfl rfl ?_
            refine z_bipush (pc' := 147) dX9_addSlice_145 (by decide) rfl ?_
            refine z_iload_n (pc' := 148) 3 dX9_addSlice_147 rfl rfl rfl ?_
            refine z_imul (pc' := 149) dX9_addSlice_148 rfl ?_
            refine z_iconst (pc' := 150) dX9_addSlice_149 rfl ?_
            refine z_iadd (pc' := 151) dX9_addSlice_150 rfl ?_
            refine z_iaload (pc' := 152) 1 dX9_addSlice_151 rfl (by decide) g8 rfl ?_
            cases hsh
            exact z_iret rfl dX9_addSlice_152 ⟨rfl, rfl⟩
          · replace hsh := zif_f q hsh
            refine z_iconst (pc' := 81) dX9_addSlice_80 rfl ?_
            refine z_perm [(a_t, .inr (8, [.int (zi q10.2), .int (zi c_t_high), .int (zi c_t_wide), .ref a_t_now, .ref a_t_trial, .ref a_t_diary, .int (zi c_t_acts), .int (zi c_t_next), .ref a_t_kept, .ref a_t_isKept, .ref a_t_script, .int (zi c_t_scriptSize), .int (zi c_t_spot), .ref a_t_read, .int (zi c_t_readHigh), .int (zi c_t_readWide), .ref a_t_wanted, .ref a_t_level, .ref a_t_chosen, .ref a_t_best])), (a_t_now, zI J 243 f_t_now), (a_t_diary, zI J 3402 f_t_diary)] [(4, .int (zi (0 : Int))), (0, .ref a_t), (1, .int (zi p0)), (2, .int (zi p1)), (3, .int (zi p2))] [2, 0, 1] [0, 1, 2, 3, 4] rfl rfl rfl ?_
            cases hsh
            exact z_iret rfl dX9_addSlice_81 ⟨rfl, rfl⟩
        · replace hsh := zif_t q hsh
          refine z_iconst (pc' := 70) dX9_addSlice_69 rfl ?_
          refine z_goto (tgt := 74) dX9_addSlice_70 (by decide) ?_
          obtain ⟨q17, h18, hsh⟩ := zbind hsh
          refine z_callV (pc' := 77) (C := RX9) (As := [.int (zi (3 : Int))]) (rest := []) (wr := [(a_t_now, zI J 243 f_t_now), (a_t_diary, zI J 3402 f_t_diary)]) 1 (zc_X9_refused l D J F (a_t := a_t) (a_t_now := a_t_now) (a_t_trial := a_t_trial) (a_t_diary := a_t_diary) (a_t_kept := a_t_kept) (a_t_isKept := a_t_isKept) (a_t_script := a_t_script) (a_t_read := a_t_read) (a_t_wanted := a_t_wanted) (a_t_level := a_t_level) (a_t_chosen := a_t_chosen) (a_t_best := a_t_best) (c_t_refusal := c_t_refusal) (c_t_high := c_t_high) (c_t_wide := c_t_wide) (c_t_acts := c_t_acts) (c_t_next := c_t_next) (c_t_scriptSize := c_t_scriptSize) (c_t_spot := c_t_spot) (c_t_readHigh := c_t_readHigh) (c_t_readWide := c_t_readWide) (p0 := (3 : Int))  q17 h18) dX9_addSlice_74 gX9_addSlice_X9_refused rfl rfl rfl (by decide +kernel) ⟨Nat.le_of_ble_eq_true rfl, Nat.le_of_ble_eq_true rfl⟩ ⟨Nat.le_of_ble_eq_true rfl, Nat.le_of_ble_eq_true rfl⟩ (z_spl_of [2, 0, 1] rfl rfl) rfl rfl rfl rfl (Nat.le_of_ble_eq_true rfl) rfl (fun rv w9 hq => ?_)
          obtain ⟨rfl, rfl⟩ := hq
          refine z_ws [(a_t_now, zI J 243 f_t_now), (a_t_diary, zI J 3402 f_t_diary), (a_t, .inr (8, [.int (zi q17.2), .int (zi c_t_high), .int (zi c_t_wide), .ref a_t_now, .ref a_t_trial, .ref a_t_diary, .int (zi c_t_acts), .int (zi c_t_next), .ref a_t_kept, .ref a_t_isKept, .ref a_t_script, .int (zi c_t_scriptSize), .int (zi c_t_spot), .ref a_t_read, .int (zi c_t_readHigh), .int (zi c_t_readWide), .ref a_t_wanted, .ref a_t_level, .ref a_t_chosen, .ref a_t_best]))] rfl ?_
          have g19 := zkr_p hsh
          replace hsh := zkr_k hsh
          refine z_if_eq (pc' := 80) (tgt := 82) dX9_addSlice_77 (by decide) g19 rfl (fun q => ?_) (fun q => ?_)
          · replace hsh := zif_t q hsh
            refine z_aload_n (pc' := 83) 1 dX9_addSlice_82 rfl rfl rfl ?_
            obtain ⟨q20, h21, hsh⟩ := zbind hsh
            refine z_callV (pc' := 86) (C := RX9) (As := []) (rest := []) (wr := []) 0 (zc_X9_note l D J F (a_t := a_t) (a_t_now := a_t_now) (a_t_trial := a_t_trial) (a_t_diary := a_t_diary) (a_t_kept := a_t_kept) (a_t_isKept := a_t_isKept) (a_t_script := a_t_script) (a_t_read := a_t_read) (a_t_wanted := a_t_wanted) (a_t_level := a_t_level) (a_t_chosen := a_t_chosen) (a_t_best := a_t_best) (c_t_refusal := q17.2) (c_t_high := c_t_high) (c_t_wide := c_t_wide) (c_t_acts := c_t_acts) (c_t_next := c_t_next) (c_t_scriptSize := c_t_scriptSize) (c_t_spot := c_t_spot) (c_t_readHigh := c_t_readHigh) (c_t_readWide := c_t_readWide) (f_t_now := f_t_now) (f_t_diary := f_t_diary)  q20 h21) dX9_addSlice_83 gX9_addSlice_X9_note rfl rfl rfl (by decide +kernel) ⟨Nat.le_of_ble_eq_true rfl, Nat.le_of_ble_eq_true rfl⟩ ⟨Nat.le_of_ble_eq_true rfl, Nat.le_of_ble_eq_true rfl⟩ (z_spl_of [2, 0, 1] rfl rfl) rfl rfl rfl rfl (Nat.le_of_ble_eq_true rfl) rfl (fun rv w9 hq => ?_)
            obtain ⟨rfl, rfl⟩ := hq
            refine z_ws [(a_t, .inr (8, [.int (zi q17.2), .int (zi c_t_high), .int (zi c_t_wide), .ref a_t_now, .ref a_t_trial, .ref a_t_diary, .int (zi q20.1), .int (zi q20.2.1), .ref a_t_kept, .ref a_t_isKept, .ref a_t_script, .int (zi c_t_scriptSize), .int (zi c_t_spot), .ref a_t_read, .int (zi c_t_readHigh), .int (zi c_t_readWide), .ref a_t_wanted, .ref a_t_level, .ref a_t_chosen, .ref a_t_best])), (a_t_now, zI J 243 f_t_now), (a_t_diary, zI J 3402 q20.2.2)] rfl ?_
            refine z_bipush (pc' := 88) dX9_addSlice_86 (by decide) rfl ?_
            refine z_iload_n (pc' := 89) 2 dX9_addSlice_88 rfl rfl rfl ?_
            refine z_imul (pc' := 90) dX9_addSlice_89 rfl ?_
            refine z_iconst (pc' := 91) dX9_addSlice_90 rfl ?_
            refine z_iadd (pc' := 92) dX9_addSlice_91 rfl ?_
            refine z_iconst (pc' := 93) dX9_addSlice_92 rfl ?_
            refine z_aload_n (pc' := 94) 1 dX9_addSlice_93 rfl rfl rfl ?_
            refine z_getfield (pc' := 97) (C := RX9) (T := TX9) (N := 20) 0 3 dX9_addSlice_94 iX9_addSlice_X9 rfl rfl (by decide) mX9_addSlice_f16 rfl rfl ?_
            refine z_bipush (pc' := 99) dX9_addSlice_97 (by decide) rfl ?_
            refine z_iload_n (pc' := 100) 2 dX9_addSlice_99 rfl rfl rfl ?_
            refine z_imul (pc' := 101) dX9_addSlice_100 rfl ?_
            refine z_iconst (pc' := 102) dX9_addSlice_101 rfl ?_
            refine z_iadd (pc' := 103) dX9_addSlice_102 rfl ?_
            refine z_iaload (pc' := 104) 1 dX9_addSlice_103 rfl (by decide) g8 rfl ?_
            refine z_imul (pc' := 105) dX9_addSlice_104 rfl ?_
            refine z_iadd (pc' := 106) dX9_addSlice_105 rfl ?_
            refine z_istore (pc' := 108) [(5, .int (zi ((((15 : Int) * p0) + (3 : Int)) + ((2 : Int) * (f_t_now ((((15 : Int) * p0) + (2 : Int))).toNat))))), (4, .int (zi (0 : Int))), (0, .ref a_t), (1, .int (zi p0)), (2, .int (zi p1)), (3, .int (zi p2))] dX9_addSlice_106 (by decide) rfl rfl ?_
            refine z_aload_n (pc' := 109) 2 dX9_addSlice_108 rfl rfl rfl ?_
            refine z_getfield (pc' := 112) (C := RX9) (T := TX9) (N := 20) 0 3 dX9_addSlice_109 iX9_addSlice_X9 rfl rfl (by decide) mX9_addSlice_f16 rfl rfl ?_
            refine z_iload (pc' := 114) 0 dX9_addSlice_112 rfl rfl ?_
            refine z_iload_n (pc' := 115) 4 dX9_addSlice_114 rfl rfl rfl ?_
            have g22 := zkx_p hsh
            replace hsh := zkx_k hsh
            refine z_iastore (pc' := 116) 1 [(a_t, .inr (8, [.int (zi q17.2), .int (zi c_t_high), .int (zi c_t_wide), .ref a_t_now, .ref a_t_trial, .ref a_t_diary, .int (zi q20.1), .int (zi q20.2.1), .ref a_t_kept, .ref a_t_isKept, .ref a_t_script, .int (zi c_t_scriptSize), .int (zi c_t_spot), .ref a_t_read, .int (zi c_t_readHigh), .int (zi c_t_readWide), .ref a_t_wanted, .ref a_t_level, .ref a_t_chosen, .ref a_t_best])), (a_t_now, zI J 243 (va_up f_t_now (((((15 : Int) * p0) + (3 : Int)) + ((2 : Int) * (f_t_now ((((15 : Int) * p0) + (2 : Int))).toNat)))).toNat p1)), (a_t_diary, zI J 3402 q20.2.2)] dX9_addSlice_115 rfl (by decide) g22 rfl rfl ?_
            refine z_aload_n (pc' := 117) 2 dX9_addSlice_116 rfl rfl rfl ?_
            refine z_getfield (pc' := 120) (C := RX9) (T := TX9) (N := 20) 0 3 dX9_addSlice_117 iX9_addSlice_X9 rfl rfl (by decide) mX9_addSlice_f16 rfl rfl ?_
            refine z_iload (pc' := 122) 0 dX9_addSlice_120 rfl rfl ?_
            refine z_iconst (pc' := 123) dX9_addSlice_122 rfl ?_
            refine z_iadd (pc' := 124) dX9_addSlice_123 rfl ?_
            refine z_iload_n (pc' := 125) 5 dX9_addSlice_124 rfl rfl rfl ?_
            have g23 := zkx_p hsh
            replace hsh := zkx_k hsh
            refine z_iastore (pc' := 126) 1 [(a_t, .inr (8, [.int (zi q17.2), .int (zi c_t_high), .int (zi c_t_wide), .ref a_t_now, .ref a_t_trial, .ref a_t_diary, .int (zi q20.1), .int (zi q20.2.1), .ref a_t_kept, .ref a_t_isKept, .ref a_t_script, .int (zi c_t_scriptSize), .int (zi c_t_spot), .ref a_t_read, .int (zi c_t_readHigh), .int (zi c_t_readWide), .ref a_t_wanted, .ref a_t_level, .ref a_t_chosen, .ref a_t_best])), (a_t_now, zI J 243 (va_up (va_up f_t_now (((((15 : Int) * p0) + (3 : Int)) + ((2 : Int) * (f_t_now ((((15 : Int) * p0) + (2 : Int))).toNat)))).toNat p1) ((((((15 : Int) * p0) + (3 : Int)) + ((2 : Int) * (f_t_now ((((15 : Int) * p0) + (2 : Int))).toNat))) + (1 : Int))).toNat p2)), (a_t_diary, zI J 3402 q20.2.2)] dX9_addSlice_125 rfl (by decide) g23 rfl rfl ?_
            refine z_aload_n (pc' := 127) 2 dX9_addSlice_126 rfl rfl rfl ?_
            refine z_getfield (pc' := 130) (C := RX9) (T := TX9) (N := 20) 0 3 dX9_addSlice_127 iX9_addSlice_X9 rfl rfl (by decide) mX9_addSlice_f16 rfl rfl ?_
            refine z_bipush (pc' := 132) dX9_addSlice_130 (by decide) rfl ?_
            refine z_iload_n (pc' := 133) 3 dX9_addSlice_132 rfl rfl rfl ?_
            refine z_imul (pc' := 134) dX9_addSlice_133 rfl ?_
            refine z_iconst (pc' := 135) dX9_addSlice_134 rfl ?_
            refine z_iadd (pc' := 136) dX9_addSlice_135 rfl ?_
            refine z_dup2 (pc' := 137) dX9_addSlice_136 rfl rfl rfl ?_
            refine z_iaload (pc' := 138) 1 dX9_addSlice_137 rfl (by decide) g8 rfl ?_
            refine z_iconst (pc' := 139) dX9_addSlice_138 rfl ?_
            refine z_iadd (pc' := 140) dX9_addSlice_139 rfl ?_
            refine z_iastore (pc' := 141) 1 [(a_t, .inr (8, [.int (zi q17.2), .int (zi c_t_high), .int (zi c_t_wide), .ref a_t_now, .ref a_t_trial, .ref a_t_diary, .int (zi q20.1), .int (zi q20.2.1), .ref a_t_kept, .ref a_t_isKept, .ref a_t_script, .int (zi c_t_scriptSize), .int (zi c_t_spot), .ref a_t_read, .int (zi c_t_readHigh), .int (zi c_t_readWide), .ref a_t_wanted, .ref a_t_level, .ref a_t_chosen, .ref a_t_best])), (a_t_now, zI J 243 (va_up (va_up (va_up f_t_now (((((15 : Int) * p0) + (3 : Int)) + ((2 : Int) * (f_t_now ((((15 : Int) * p0) + (2 : Int))).toNat)))).toNat p1) ((((((15 : Int) * p0) + (3 : Int)) + ((2 : Int) * (f_t_now ((((15 : Int) * p0) + (2 : Int))).toNat))) + (1 : Int))).toNat p2) ((((15 : Int) * p0) + (2 : Int))).toNat (((va_up (va_up f_t_now (((((15 : Int) * p0) + (3 : Int)) + ((2 : Int) * (f_t_now ((((15 : Int) * p0) + (2 : Int))).toNat)))).toNat p1) ((((((15 : Int) * p0) + (3 : Int)) + ((2 : Int) * (f_t_now ((((15 : Int) * p0) + (2 : Int))).toNat))) + (1 : Int))).toNat p2) ((((15 : Int) * p0) + (2 : Int))).toNat) + (1 : Int)))), (a_t_diary, zI J 3402 q20.2.2)] dX9_addSlice_140 rfl (by decide) g8 rfl rfl ?_
            refine z_aload_n (pc' := 142) 2 dX9_addSlice_141 rfl rfl rfl ?_
            refine z_getfield (pc' := 145) (C := RX9) (T := TX9) (N := 20) 0 3 dX9_addSlice_142 iX9_addSlice_X9 rfl rfl (by decide) mX9_addSlice_f16 rfl rfl ?_
            refine z_bipush (pc' := 147) dX9_addSlice_145 (by decide) rfl ?_
            refine z_iload_n (pc' := 148) 3 dX9_addSlice_147 rfl rfl rfl ?_
            refine z_imul (pc' := 149) dX9_addSlice_148 rfl ?_
            refine z_iconst (pc' := 150) dX9_addSlice_149 rfl ?_
            refine z_iadd (pc' := 151) dX9_addSlice_150 rfl ?_
            refine z_iaload (pc' := 152) 1 dX9_addSlice_151 rfl (by decide) g8 rfl ?_
            cases hsh
            exact z_iret rfl dX9_addSlice_152 ⟨rfl, rfl⟩
          · replace hsh := zif_f q hsh
            refine z_iconst (pc' := 81) dX9_addSlice_80 rfl ?_
            refine z_perm [(a_t, .inr (8, [.int (zi q17.2), .int (zi c_t_high), .int (zi c_t_wide), .ref a_t_now, .ref a_t_trial, .ref a_t_diary, .int (zi c_t_acts), .int (zi c_t_next), .ref a_t_kept, .ref a_t_isKept, .ref a_t_script, .int (zi c_t_scriptSize), .int (zi c_t_spot), .ref a_t_read, .int (zi c_t_readHigh), .int (zi c_t_readWide), .ref a_t_wanted, .ref a_t_level, .ref a_t_chosen, .ref a_t_best])), (a_t_now, zI J 243 f_t_now), (a_t_diary, zI J 3402 f_t_diary)] [(4, .int (zi (0 : Int))), (0, .ref a_t), (1, .int (zi p0)), (2, .int (zi p1)), (3, .int (zi p2))] [2, 0, 1] [0, 1, 2, 3, 4] rfl rfl rfl ?_
            cases hsh
            exact z_iret rfl dX9_addSlice_81 ⟨rfl, rfl⟩
      · replace hsh := zif_t q hsh
        refine z_iconst (pc' := 50) dX9_addSlice_49 rfl ?_
        refine z_goto (tgt := 74) dX9_addSlice_50 (by decide) ?_
        obtain ⟨q24, h25, hsh⟩ := zbind hsh
        refine z_callV (pc' := 77) (C := RX9) (As := [.int (zi (2 : Int))]) (rest := []) (wr := [(a_t_now, zI J 243 f_t_now), (a_t_diary, zI J 3402 f_t_diary)]) 1 (zc_X9_refused l D J F (a_t := a_t) (a_t_now := a_t_now) (a_t_trial := a_t_trial) (a_t_diary := a_t_diary) (a_t_kept := a_t_kept) (a_t_isKept := a_t_isKept) (a_t_script := a_t_script) (a_t_read := a_t_read) (a_t_wanted := a_t_wanted) (a_t_level := a_t_level) (a_t_chosen := a_t_chosen) (a_t_best := a_t_best) (c_t_refusal := c_t_refusal) (c_t_high := c_t_high) (c_t_wide := c_t_wide) (c_t_acts := c_t_acts) (c_t_next := c_t_next) (c_t_scriptSize := c_t_scriptSize) (c_t_spot := c_t_spot) (c_t_readHigh := c_t_readHigh) (c_t_readWide := c_t_readWide) (p0 := (2 : Int))  q24 h25) dX9_addSlice_74 gX9_addSlice_X9_refused rfl rfl rfl (by decide +kernel) ⟨Nat.le_of_ble_eq_true rfl, Nat.le_of_ble_eq_true rfl⟩ ⟨Nat.le_of_ble_eq_true rfl, Nat.le_of_ble_eq_true rfl⟩ (z_spl_of [2, 0, 1] rfl rfl) rfl rfl rfl rfl (Nat.le_of_ble_eq_true rfl) rfl (fun rv w9 hq => ?_)
        obtain ⟨rfl, rfl⟩ := hq
        refine z_ws [(a_t_now, zI J 243 f_t_now), (a_t_diary, zI J 3402 f_t_diary), (a_t, .inr (8, [.int (zi q24.2), .int (zi c_t_high), .int (zi c_t_wide), .ref a_t_now, .ref a_t_trial, .ref a_t_diary, .int (zi c_t_acts), .int (zi c_t_next), .ref a_t_kept, .ref a_t_isKept, .ref a_t_script, .int (zi c_t_scriptSize), .int (zi c_t_spot), .ref a_t_read, .int (zi c_t_readHigh), .int (zi c_t_readWide), .ref a_t_wanted, .ref a_t_level, .ref a_t_chosen, .ref a_t_best]))] rfl ?_
        have g26 := zkr_p hsh
        replace hsh := zkr_k hsh
        refine z_if_eq (pc' := 80) (tgt := 82) dX9_addSlice_77 (by decide) g26 rfl (fun q => ?_) (fun q => ?_)
        · replace hsh := zif_t q hsh
          refine z_aload_n (pc' := 83) 1 dX9_addSlice_82 rfl rfl rfl ?_
          obtain ⟨q27, h28, hsh⟩ := zbind hsh
          refine z_callV (pc' := 86) (C := RX9) (As := []) (rest := []) (wr := []) 0 (zc_X9_note l D J F (a_t := a_t) (a_t_now := a_t_now) (a_t_trial := a_t_trial) (a_t_diary := a_t_diary) (a_t_kept := a_t_kept) (a_t_isKept := a_t_isKept) (a_t_script := a_t_script) (a_t_read := a_t_read) (a_t_wanted := a_t_wanted) (a_t_level := a_t_level) (a_t_chosen := a_t_chosen) (a_t_best := a_t_best) (c_t_refusal := q24.2) (c_t_high := c_t_high) (c_t_wide := c_t_wide) (c_t_acts := c_t_acts) (c_t_next := c_t_next) (c_t_scriptSize := c_t_scriptSize) (c_t_spot := c_t_spot) (c_t_readHigh := c_t_readHigh) (c_t_readWide := c_t_readWide) (f_t_now := f_t_now) (f_t_diary := f_t_diary)  q27 h28) dX9_addSlice_83 gX9_addSlice_X9_note rfl rfl rfl (by decide +kernel) ⟨Nat.le_of_ble_eq_true rfl, Nat.le_of_ble_eq_true rfl⟩ ⟨Nat.le_of_ble_eq_true rfl, Nat.le_of_ble_eq_true rfl⟩ (z_spl_of [2, 0, 1] rfl rfl) rfl rfl rfl rfl (Nat.le_of_ble_eq_true rfl) rfl (fun rv w9 hq => ?_)
          obtain ⟨rfl, rfl⟩ := hq
          refine z_ws [(a_t, .inr (8, [.int (zi q24.2), .int (zi c_t_high), .int (zi c_t_wide), .ref a_t_now, .ref a_t_trial, .ref a_t_diary, .int (zi q27.1), .int (zi q27.2.1), .ref a_t_kept, .ref a_t_isKept, .ref a_t_script, .int (zi c_t_scriptSize), .int (zi c_t_spot), .ref a_t_read, .int (zi c_t_readHigh), .int (zi c_t_readWide), .ref a_t_wanted, .ref a_t_level, .ref a_t_chosen, .ref a_t_best])), (a_t_now, zI J 243 f_t_now), (a_t_diary, zI J 3402 q27.2.2)] rfl ?_
          refine z_bipush (pc' := 88) dX9_addSlice_86 (by decide) rfl ?_
          refine z_iload_n (pc' := 89) 2 dX9_addSlice_88 rfl rfl rfl ?_
          refine z_imul (pc' := 90) dX9_addSlice_89 rfl ?_
          refine z_iconst (pc' := 91) dX9_addSlice_90 rfl ?_
          refine z_iadd (pc' := 92) dX9_addSlice_91 rfl ?_
          refine z_iconst (pc' := 93) dX9_addSlice_92 rfl ?_
          refine z_aload_n (pc' := 94) 1 dX9_addSlice_93 rfl rfl rfl ?_
          refine z_getfield (pc' := 97) (C := RX9) (T := TX9) (N := 20) 0 3 dX9_addSlice_94 iX9_addSlice_X9 rfl rfl (by decide) mX9_addSlice_f16 rfl rfl ?_
          refine z_bipush (pc' := 99) dX9_addSlice_97 (by decide) rfl ?_
          refine z_iload_n (pc' := 100) 2 dX9_addSlice_99 rfl rfl rfl ?_
          refine z_imul (pc' := 101) dX9_addSlice_100 rfl ?_
          refine z_iconst (pc' := 102) dX9_addSlice_101 rfl ?_
          refine z_iadd (pc' := 103) dX9_addSlice_102 rfl ?_
          have g29 := zkx_p hsh
          replace hsh := zkx_k hsh
          refine z_iaload (pc' := 104) 1 dX9_addSlice_103 rfl (by decide) g29 rfl ?_
          refine z_imul (pc' := 105) dX9_addSlice_104 rfl ?_
          refine z_iadd (pc' := 106) dX9_addSlice_105 rfl ?_
          refine z_istore (pc' := 108) [(5, .int (zi ((((15 : Int) * p0) + (3 : Int)) + ((2 : Int) * (f_t_now ((((15 : Int) * p0) + (2 : Int))).toNat))))), (4, .int (zi (0 : Int))), (0, .ref a_t), (1, .int (zi p0)), (2, .int (zi p1)), (3, .int (zi p2))] dX9_addSlice_106 (by decide) rfl rfl ?_
          refine z_aload_n (pc' := 109) 2 dX9_addSlice_108 rfl rfl rfl ?_
          refine z_getfield (pc' := 112) (C := RX9) (T := TX9) (N := 20) 0 3 dX9_addSlice_109 iX9_addSlice_X9 rfl rfl (by decide) mX9_addSlice_f16 rfl rfl ?_
          refine z_iload (pc' := 114) 0 dX9_addSlice_112 rfl rfl ?_
          refine z_iload_n (pc' := 115) 4 dX9_addSlice_114 rfl rfl rfl ?_
          have g30 := zkx_p hsh
          replace hsh := zkx_k hsh
          refine z_iastore (pc' := 116) 1 [(a_t, .inr (8, [.int (zi q24.2), .int (zi c_t_high), .int (zi c_t_wide), .ref a_t_now, .ref a_t_trial, .ref a_t_diary, .int (zi q27.1), .int (zi q27.2.1), .ref a_t_kept, .ref a_t_isKept, .ref a_t_script, .int (zi c_t_scriptSize), .int (zi c_t_spot), .ref a_t_read, .int (zi c_t_readHigh), .int (zi c_t_readWide), .ref a_t_wanted, .ref a_t_level, .ref a_t_chosen, .ref a_t_best])), (a_t_now, zI J 243 (va_up f_t_now (((((15 : Int) * p0) + (3 : Int)) + ((2 : Int) * (f_t_now ((((15 : Int) * p0) + (2 : Int))).toNat)))).toNat p1)), (a_t_diary, zI J 3402 q27.2.2)] dX9_addSlice_115 rfl (by decide) g30 rfl rfl ?_
          refine z_aload_n (pc' := 117) 2 dX9_addSlice_116 rfl rfl rfl ?_
          refine z_getfield (pc' := 120) (C := RX9) (T := TX9) (N := 20) 0 3 dX9_addSlice_117 iX9_addSlice_X9 rfl rfl (by decide) mX9_addSlice_f16 rfl rfl ?_
          refine z_iload (pc' := 122) 0 dX9_addSlice_120 rfl rfl ?_
          refine z_iconst (pc' := 123) dX9_addSlice_122 rfl ?_
          refine z_iadd (pc' := 124) dX9_addSlice_123 rfl ?_
          refine z_iload_n (pc' := 125) 5 dX9_addSlice_124 rfl rfl rfl ?_
          have g31 := zkx_p hsh
          replace hsh := zkx_k hsh
          refine z_iastore (pc' := 126) 1 [(a_t, .inr (8, [.int (zi q24.2), .int (zi c_t_high), .int (zi c_t_wide), .ref a_t_now, .ref a_t_trial, .ref a_t_diary, .int (zi q27.1), .int (zi q27.2.1), .ref a_t_kept, .ref a_t_isKept, .ref a_t_script, .int (zi c_t_scriptSize), .int (zi c_t_spot), .ref a_t_read, .int (zi c_t_readHigh), .int (zi c_t_readWide), .ref a_t_wanted, .ref a_t_level, .ref a_t_chosen, .ref a_t_best])), (a_t_now, zI J 243 (va_up (va_up f_t_now (((((15 : Int) * p0) + (3 : Int)) + ((2 : Int) * (f_t_now ((((15 : Int) * p0) + (2 : Int))).toNat)))).toNat p1) ((((((15 : Int) * p0) + (3 : Int)) + ((2 : Int) * (f_t_now ((((15 : Int) * p0) + (2 : Int))).toNat))) + (1 : Int))).toNat p2)), (a_t_diary, zI J 3402 q27.2.2)] dX9_addSlice_125 rfl (by decide) g31 rfl rfl ?_
          refine z_aload_n (pc' := 127) 2 dX9_addSlice_126 rfl rfl rfl ?_
          refine z_getfield (pc' := 130) (C := RX9) (T := TX9) (N := 20) 0 3 dX9_addSlice_127 iX9_addSlice_X9 rfl rfl (by decide) mX9_addSlice_f16 rfl rfl ?_
          refine z_bipush (pc' := 132) dX9_addSlice_130 (by decide) rfl ?_
          refine z_iload_n (pc' := 133) 3 dX9_addSlice_132 rfl rfl rfl ?_
          refine z_imul (pc' := 134) dX9_addSlice_133 rfl ?_
          refine z_iconst (pc' := 135) dX9_addSlice_134 rfl ?_
          refine z_iadd (pc' := 136) dX9_addSlice_135 rfl ?_
          refine z_dup2 (pc' := 137) dX9_addSlice_136 rfl rfl rfl ?_
          refine z_iaload (pc' := 138) 1 dX9_addSlice_137 rfl (by decide) g29 rfl ?_
          refine z_iconst (pc' := 139) dX9_addSlice_138 rfl ?_
          refine z_iadd (pc' := 140) dX9_addSlice_139 rfl ?_
          refine z_iastore (pc' := 141) 1 [(a_t, .inr (8, [.int (zi q24.2), .int (zi c_t_high), .int (zi c_t_wide), .ref a_t_now, .ref a_t_trial, .ref a_t_diary, .int (zi q27.1), .int (zi q27.2.1), .ref a_t_kept, .ref a_t_isKept, .ref a_t_script, .int (zi c_t_scriptSize), .int (zi c_t_spot), .ref a_t_read, .int (zi c_t_readHigh), .int (zi c_t_readWide), .ref a_t_wanted, .ref a_t_level, .ref a_t_chosen, .ref a_t_best])), (a_t_now, zI J 243 (va_up (va_up (va_up f_t_now (((((15 : Int) * p0) + (3 : Int)) + ((2 : Int) * (f_t_now ((((15 : Int) * p0) + (2 : Int))).toNat)))).toNat p1) ((((((15 : Int) * p0) + (3 : Int)) + ((2 : Int) * (f_t_now ((((15 : Int) * p0) + (2 : Int))).toNat))) + (1 : Int))).toNat p2) ((((15 : Int) * p0) + (2 : Int))).toNat (((va_up (va_up f_t_now (((((15 : Int) * p0) + (3 : Int)) + ((2 : Int) * (f_t_now ((((15 : Int) * p0) + (2 : Int))).toNat)))).toNat p1) ((((((15 : Int) * p0) + (3 : Int)) + ((2 : Int) * (f_t_now ((((15 : Int) * p0) + (2 : Int))).toNat))) + (1 : Int))).toNat p2) ((((15 : Int) * p0) + (2 : Int))).toNat) + (1 : Int)))), (a_t_diary, zI J 3402 q27.2.2)] dX9_addSlice_140 rfl (by decide) g29 rfl rfl ?_
          refine z_aload_n (pc' := 142) 2 dX9_addSlice_141 rfl rfl rfl ?_
          refine z_getfield (pc' := 145) (C := RX9) (T := TX9) (N := 20) 0 3 dX9_addSlice_142 iX9_addSlice_X9 rfl rfl (by decide) mX9_addSlice_f16 rfl rfl ?_
          refine z_bipush (pc' := 147) dX9_addSlice_145 (by decide) rfl ?_
          refine z_iload_n (pc' := 148) 3 dX9_addSlice_147 rfl rfl rfl ?_
          refine z_imul (pc' := 149) dX9_addSlice_148 rfl ?_
          refine z_iconst (pc' := 150) dX9_addSlice_149 rfl ?_
          refine z_iadd (pc' := 151) dX9_addSlice_150 rfl ?_
          refine z_iaload (pc' := 152) 1 dX9_addSlice_151 rfl (by decide) g29 rfl ?_
          cases hsh
          exact z_iret rfl dX9_addSlice_152 ⟨rfl, rfl⟩
        · replace hsh := zif_f q hsh
          refine z_iconst (pc' := 81) dX9_addSlice_80 rfl ?_
          refine z_perm [(a_t, .inr (8, [.int (zi q24.2), .int (zi c_t_high), .int (zi c_t_wide), .ref a_t_now, .ref a_t_trial, .ref a_t_diary, .int (zi c_t_acts), .int (zi c_t_next), .ref a_t_kept, .ref a_t_isKept, .ref a_t_script, .int (zi c_t_scriptSize), .int (zi c_t_spot), .ref a_t_read, .int (zi c_t_readHigh), .int (zi c_t_readWide), .ref a_t_wanted, .ref a_t_level, .ref a_t_chosen, .ref a_t_best])), (a_t_now, zI J 243 f_t_now), (a_t_diary, zI J 3402 f_t_diary)] [(4, .int (zi (0 : Int))), (0, .ref a_t), (1, .int (zi p0)), (2, .int (zi p1)), (3, .int (zi p2))] [2, 0, 1] [0, 1, 2, 3, 4] rfl rfl rfl ?_
          cases hsh
          exact z_iret rfl dX9_addSlice_81 ⟨rfl, rfl⟩
    · replace hsh := zif_t q hsh
      refine z_iconst (pc' := 41) dX9_addSlice_40 rfl ?_
      refine z_goto (tgt := 74) dX9_addSlice_41 (by decide) ?_
      obtain ⟨q32, h33, hsh⟩ := zbind hsh
      refine z_callV (pc' := 77) (C := RX9) (As := [.int (zi (1 : Int))]) (rest := []) (wr := [(a_t_now, zI J 243 f_t_now), (a_t_diary, zI J 3402 f_t_diary)]) 1 (zc_X9_refused l D J F (a_t := a_t) (a_t_now := a_t_now) (a_t_trial := a_t_trial) (a_t_diary := a_t_diary) (a_t_kept := a_t_kept) (a_t_isKept := a_t_isKept) (a_t_script := a_t_script) (a_t_read := a_t_read) (a_t_wanted := a_t_wanted) (a_t_level := a_t_level) (a_t_chosen := a_t_chosen) (a_t_best := a_t_best) (c_t_refusal := c_t_refusal) (c_t_high := c_t_high) (c_t_wide := c_t_wide) (c_t_acts := c_t_acts) (c_t_next := c_t_next) (c_t_scriptSize := c_t_scriptSize) (c_t_spot := c_t_spot) (c_t_readHigh := c_t_readHigh) (c_t_readWide := c_t_readWide) (p0 := (1 : Int))  q32 h33) dX9_addSlice_74 gX9_addSlice_X9_refused rfl rfl rfl (by decide +kernel) ⟨Nat.le_of_ble_eq_true rfl, Nat.le_of_ble_eq_true rfl⟩ ⟨Nat.le_of_ble_eq_true rfl, Nat.le_of_ble_eq_true rfl⟩ (z_spl_of [2, 0, 1] rfl rfl) rfl rfl rfl rfl (Nat.le_of_ble_eq_true rfl) rfl (fun rv w9 hq => ?_)
      obtain ⟨rfl, rfl⟩ := hq
      refine z_ws [(a_t_now, zI J 243 f_t_now), (a_t_diary, zI J 3402 f_t_diary), (a_t, .inr (8, [.int (zi q32.2), .int (zi c_t_high), .int (zi c_t_wide), .ref a_t_now, .ref a_t_trial, .ref a_t_diary, .int (zi c_t_acts), .int (zi c_t_next), .ref a_t_kept, .ref a_t_isKept, .ref a_t_script, .int (zi c_t_scriptSize), .int (zi c_t_spot), .ref a_t_read, .int (zi c_t_readHigh), .int (zi c_t_readWide), .ref a_t_wanted, .ref a_t_level, .ref a_t_chosen, .ref a_t_best]))] rfl ?_
      have g34 := zkr_p hsh
      replace hsh := zkr_k hsh
      refine z_if_eq (pc' := 80) (tgt := 82) dX9_addSlice_77 (by decide) g34 rfl (fun q => ?_) (fun q => ?_)
      · replace hsh := zif_t q hsh
        refine z_aload_n (pc' := 83) 1 dX9_addSlice_82 rfl rfl rfl ?_
        obtain ⟨q35, h36, hsh⟩ := zbind hsh
        refine z_callV (pc' := 86) (C := RX9) (As := []) (rest := []) (wr := []) 0 (zc_X9_note l D J F (a_t := a_t) (a_t_now := a_t_now) (a_t_trial := a_t_trial) (a_t_diary := a_t_diary) (a_t_kept := a_t_kept) (a_t_isKept := a_t_isKept) (a_t_script := a_t_script) (a_t_read := a_t_read) (a_t_wanted := a_t_wanted) (a_t_level := a_t_level) (a_t_chosen := a_t_chosen) (a_t_best := a_t_best) (c_t_refusal := q32.2) (c_t_high := c_t_high) (c_t_wide := c_t_wide) (c_t_acts := c_t_acts) (c_t_next := c_t_next) (c_t_scriptSize := c_t_scriptSize) (c_t_spot := c_t_spot) (c_t_readHigh := c_t_readHigh) (c_t_readWide := c_t_readWide) (f_t_now := f_t_now) (f_t_diary := f_t_diary)  q35 h36) dX9_addSlice_83 gX9_addSlice_X9_note rfl rfl rfl (by decide +kernel) ⟨Nat.le_of_ble_eq_true rfl, Nat.le_of_ble_eq_true rfl⟩ ⟨Nat.le_of_ble_eq_true rfl, Nat.le_of_ble_eq_true rfl⟩ (z_spl_of [2, 0, 1] rfl rfl) rfl rfl rfl rfl (Nat.le_of_ble_eq_true rfl) rfl (fun rv w9 hq => ?_)
        obtain ⟨rfl, rfl⟩ := hq
        refine z_ws [(a_t, .inr (8, [.int (zi q32.2), .int (zi c_t_high), .int (zi c_t_wide), .ref a_t_now, .ref a_t_trial, .ref a_t_diary, .int (zi q35.1), .int (zi q35.2.1), .ref a_t_kept, .ref a_t_isKept, .ref a_t_script, .int (zi c_t_scriptSize), .int (zi c_t_spot), .ref a_t_read, .int (zi c_t_readHigh), .int (zi c_t_readWide), .ref a_t_wanted, .ref a_t_level, .ref a_t_chosen, .ref a_t_best])), (a_t_now, zI J 243 f_t_now), (a_t_diary, zI J 3402 q35.2.2)] rfl ?_
        refine z_bipush (pc' := 88) dX9_addSlice_86 (by decide) rfl ?_
        refine z_iload_n (pc' := 89) 2 dX9_addSlice_88 rfl rfl rfl ?_
        refine z_imul (pc' := 90) dX9_addSlice_89 rfl ?_
        refine z_iconst (pc' := 91) dX9_addSlice_90 rfl ?_
        refine z_iadd (pc' := 92) dX9_addSlice_91 rfl ?_
        refine z_iconst (pc' := 93) dX9_addSlice_92 rfl ?_
        refine z_aload_n (pc' := 94) 1 dX9_addSlice_93 rfl rfl rfl ?_
        refine z_getfield (pc' := 97) (C := RX9) (T := TX9) (N := 20) 0 3 dX9_addSlice_94 iX9_addSlice_X9 rfl rfl (by decide) mX9_addSlice_f16 rfl rfl ?_
        refine z_bipush (pc' := 99) dX9_addSlice_97 (by decide) rfl ?_
        refine z_iload_n (pc' := 100) 2 dX9_addSlice_99 rfl rfl rfl ?_
        refine z_imul (pc' := 101) dX9_addSlice_100 rfl ?_
        refine z_iconst (pc' := 102) dX9_addSlice_101 rfl ?_
        refine z_iadd (pc' := 103) dX9_addSlice_102 rfl ?_
        have g37 := zkx_p hsh
        replace hsh := zkx_k hsh
        refine z_iaload (pc' := 104) 1 dX9_addSlice_103 rfl (by decide) g37 rfl ?_
        refine z_imul (pc' := 105) dX9_addSlice_104 rfl ?_
        refine z_iadd (pc' := 106) dX9_addSlice_105 rfl ?_
        refine z_istore (pc' := 108) [(5, .int (zi ((((15 : Int) * p0) + (3 : Int)) + ((2 : Int) * (f_t_now ((((15 : Int) * p0) + (2 : Int))).toNat))))), (4, .int (zi (0 : Int))), (0, .ref a_t), (1, .int (zi p0)), (2, .int (zi p1)), (3, .int (zi p2))] dX9_addSlice_106 (by decide) rfl rfl ?_
        refine z_aload_n (pc' := 109) 2 dX9_addSlice_108 rfl rfl rfl ?_
        refine z_getfield (pc' := 112) (C := RX9) (T := TX9) (N := 20) 0 3 dX9_addSlice_109 iX9_addSlice_X9 rfl rfl (by decide) mX9_addSlice_f16 rfl rfl ?_
        refine z_iload (pc' := 114) 0 dX9_addSlice_112 rfl rfl ?_
        refine z_iload_n (pc' := 115) 4 dX9_addSlice_114 rfl rfl rfl ?_
        have g38 := zkx_p hsh
        replace hsh := zkx_k hsh
        refine z_iastore (pc' := 116) 1 [(a_t, .inr (8, [.int (zi q32.2), .int (zi c_t_high), .int (zi c_t_wide), .ref a_t_now, .ref a_t_trial, .ref a_t_diary, .int (zi q35.1), .int (zi q35.2.1), .ref a_t_kept, .ref a_t_isKept, .ref a_t_script, .int (zi c_t_scriptSize), .int (zi c_t_spot), .ref a_t_read, .int (zi c_t_readHigh), .int (zi c_t_readWide), .ref a_t_wanted, .ref a_t_level, .ref a_t_chosen, .ref a_t_best])), (a_t_now, zI J 243 (va_up f_t_now (((((15 : Int) * p0) + (3 : Int)) + ((2 : Int) * (f_t_now ((((15 : Int) * p0) + (2 : Int))).toNat)))).toNat p1)), (a_t_diary, zI J 3402 q35.2.2)] dX9_addSlice_115 rfl (by decide) g38 rfl rfl ?_
        refine z_aload_n (pc' := 117) 2 dX9_addSlice_116 rfl rfl rfl ?_
        refine z_getfield (pc' := 120) (C := RX9) (T := TX9) (N := 20) 0 3 dX9_addSlice_117 iX9_addSlice_X9 rfl rfl (by decide) mX9_addSlice_f16 rfl rfl ?_
        refine z_iload (pc' := 122) 0 dX9_addSlice_120 rfl rfl ?_
        refine z_iconst (pc' := 123) dX9_addSlice_122 rfl ?_
        refine z_iadd (pc' := 124) dX9_addSlice_123 rfl ?_
        refine z_iload_n (pc' := 125) 5 dX9_addSlice_124 rfl rfl rfl ?_
        have g39 := zkx_p hsh
        replace hsh := zkx_k hsh
        refine z_iastore (pc' := 126) 1 [(a_t, .inr (8, [.int (zi q32.2), .int (zi c_t_high), .int (zi c_t_wide), .ref a_t_now, .ref a_t_trial, .ref a_t_diary, .int (zi q35.1), .int (zi q35.2.1), .ref a_t_kept, .ref a_t_isKept, .ref a_t_script, .int (zi c_t_scriptSize), .int (zi c_t_spot), .ref a_t_read, .int (zi c_t_readHigh), .int (zi c_t_readWide), .ref a_t_wanted, .ref a_t_level, .ref a_t_chosen, .ref a_t_best])), (a_t_now, zI J 243 (va_up (va_up f_t_now (((((15 : Int) * p0) + (3 : Int)) + ((2 : Int) * (f_t_now ((((15 : Int) * p0) + (2 : Int))).toNat)))).toNat p1) ((((((15 : Int) * p0) + (3 : Int)) + ((2 : Int) * (f_t_now ((((15 : Int) * p0) + (2 : Int))).toNat))) + (1 : Int))).toNat p2)), (a_t_diary, zI J 3402 q35.2.2)] dX9_addSlice_125 rfl (by decide) g39 rfl rfl ?_
        refine z_aload_n (pc' := 127) 2 dX9_addSlice_126 rfl rfl rfl ?_
        refine z_getfield (pc' := 130) (C := RX9) (T := TX9) (N := 20) 0 3 dX9_addSlice_127 iX9_addSlice_X9 rfl rfl (by decide) mX9_addSlice_f16 rfl rfl ?_
        refine z_bipush (pc' := 132) dX9_addSlice_130 (by decide) rfl ?_
        refine z_iload_n (pc' := 133) 3 dX9_addSlice_132 rfl rfl rfl ?_
        refine z_imul (pc' := 134) dX9_addSlice_133 rfl ?_
        refine z_iconst (pc' := 135) dX9_addSlice_134 rfl ?_
        refine z_iadd (pc' := 136) dX9_addSlice_135 rfl ?_
        refine z_dup2 (pc' := 137) dX9_addSlice_136 rfl rfl rfl ?_
        refine z_iaload (pc' := 138) 1 dX9_addSlice_137 rfl (by decide) g37 rfl ?_
        refine z_iconst (pc' := 139) dX9_addSlice_138 rfl ?_
        refine z_iadd (pc' := 140) dX9_addSlice_139 rfl ?_
        refine z_iastore (pc' := 141) 1 [(a_t, .inr (8, [.int (zi q32.2), .int (zi c_t_high), .int (zi c_t_wide), .ref a_t_now, .ref a_t_trial, .ref a_t_diary, .int (zi q35.1), .int (zi q35.2.1), .ref a_t_kept, .ref a_t_isKept, .ref a_t_script, .int (zi c_t_scriptSize), .int (zi c_t_spot), .ref a_t_read, .int (zi c_t_readHigh), .int (zi c_t_readWide), .ref a_t_wanted, .ref a_t_level, .ref a_t_chosen, .ref a_t_best])), (a_t_now, zI J 243 (va_up (va_up (va_up f_t_now (((((15 : Int) * p0) + (3 : Int)) + ((2 : Int) * (f_t_now ((((15 : Int) * p0) + (2 : Int))).toNat)))).toNat p1) ((((((15 : Int) * p0) + (3 : Int)) + ((2 : Int) * (f_t_now ((((15 : Int) * p0) + (2 : Int))).toNat))) + (1 : Int))).toNat p2) ((((15 : Int) * p0) + (2 : Int))).toNat (((va_up (va_up f_t_now (((((15 : Int) * p0) + (3 : Int)) + ((2 : Int) * (f_t_now ((((15 : Int) * p0) + (2 : Int))).toNat)))).toNat p1) ((((((15 : Int) * p0) + (3 : Int)) + ((2 : Int) * (f_t_now ((((15 : Int) * p0) + (2 : Int))).toNat))) + (1 : Int))).toNat p2) ((((15 : Int) * p0) + (2 : Int))).toNat) + (1 : Int)))), (a_t_diary, zI J 3402 q35.2.2)] dX9_addSlice_140 rfl (by decide) g37 rfl rfl ?_
        refine z_aload_n (pc' := 142) 2 dX9_addSlice_141 rfl rfl rfl ?_
        refine z_getfield (pc' := 145) (C := RX9) (T := TX9) (N := 20) 0 3 dX9_addSlice_142 iX9_addSlice_X9 rfl rfl (by decide) mX9_addSlice_f16 rfl rfl ?_
        refine z_bipush (pc' := 147) dX9_addSlice_145 (by decide) rfl ?_
        refine z_iload_n (pc' := 148) 3 dX9_addSlice_147 rfl rfl rfl ?_
        refine z_imul (pc' := 149) dX9_addSlice_148 rfl ?_
        refine z_iconst (pc' := 150) dX9_addSlice_149 rfl ?_
        refine z_iadd (pc' := 151) dX9_addSlice_150 rfl ?_
        refine z_iaload (pc' := 152) 1 dX9_addSlice_151 rfl (by decide) g37 rfl ?_
        cases hsh
        exact z_iret rfl dX9_addSlice_152 ⟨rfl, rfl⟩
      · replace hsh := zif_f q hsh
        refine z_iconst (pc' := 81) dX9_addSlice_80 rfl ?_
        refine z_perm [(a_t, .inr (8, [.int (zi q32.2), .int (zi c_t_high), .int (zi c_t_wide), .ref a_t_now, .ref a_t_trial, .ref a_t_diary, .int (zi c_t_acts), .int (zi c_t_next), .ref a_t_kept, .ref a_t_isKept, .ref a_t_script, .int (zi c_t_scriptSize), .int (zi c_t_spot), .ref a_t_read, .int (zi c_t_readHigh), .int (zi c_t_readWide), .ref a_t_wanted, .ref a_t_level, .ref a_t_chosen, .ref a_t_best])), (a_t_now, zI J 243 f_t_now), (a_t_diary, zI J 3402 f_t_diary)] [(4, .int (zi (0 : Int))), (0, .ref a_t), (1, .int (zi p0)), (2, .int (zi p1)), (3, .int (zi p2))] [2, 0, 1] [0, 1, 2, 3, 4] rfl rfl rfl ?_
        cases hsh
        exact z_iret rfl dX9_addSlice_81 ⟨rfl, rfl⟩
  · replace hsh := zif_f q hsh
    refine z_iload_n (pc' := 13) 3 dX9_addSlice_12 rfl rfl rfl ?_
    have g40 := zkr_p hsh
    replace hsh := zkr_k hsh
    refine z_i2l (pc' := 14) dX9_addSlice_13 g40 rfl ?_
    refine z_lconst (pc' := 15) 0 dX9_addSlice_14 (by decide) rfl ?_
    refine z_ldc2 (pc' := 18) (9 : Int) dX9_addSlice_15 mX9_addSlice_k151 (by decide) rfl ?_
    obtain ⟨q41, h42, hsh⟩ := zbind hsh
    refine z_callS (pc' := 21) (As := [.long (zl p2), .long (zl (0 : Int)), .long (zl (9 : Int))]) (rest := []) (wr := [(a_t, .inr (8, [.int (zi c_t_refusal), .int (zi c_t_high), .int (zi c_t_wide), .ref a_t_now, .ref a_t_trial, .ref a_t_diary, .int (zi c_t_acts), .int (zi c_t_next), .ref a_t_kept, .ref a_t_isKept, .ref a_t_script, .int (zi c_t_scriptSize), .int (zi c_t_spot), .ref a_t_read, .int (zi c_t_readHigh), .int (zi c_t_readWide), .ref a_t_wanted, .ref a_t_level, .ref a_t_chosen, .ref a_t_best])), (a_t_now, zI J 243 f_t_now), (a_t_diary, zI J 3402 f_t_diary)]) 3 (zc_X9_in l D J F (p0 := p2) (p1 := (0 : Int)) (p2 := (9 : Int))  q41 h42) dX9_addSlice_18 gX9_addSlice_X9_in rfl rfl rfl (by decide +kernel) ⟨Nat.le_of_ble_eq_true rfl, Nat.le_of_ble_eq_true rfl⟩ ⟨Nat.le_of_ble_eq_true rfl, Nat.le_of_ble_eq_true rfl⟩ (z_spl_of [0, 1, 2] rfl rfl) rfl rfl (Nat.le_of_ble_eq_true rfl) rfl (fun rv w9 hq => ?_)
    obtain ⟨rfl, rfl⟩ := hq
    refine z_ws [(a_t, .inr (8, [.int (zi c_t_refusal), .int (zi c_t_high), .int (zi c_t_wide), .ref a_t_now, .ref a_t_trial, .ref a_t_diary, .int (zi c_t_acts), .int (zi c_t_next), .ref a_t_kept, .ref a_t_isKept, .ref a_t_script, .int (zi c_t_scriptSize), .int (zi c_t_spot), .ref a_t_read, .int (zi c_t_readHigh), .int (zi c_t_readWide), .ref a_t_wanted, .ref a_t_level, .ref a_t_chosen, .ref a_t_best])), (a_t_now, zI J 243 f_t_now), (a_t_diary, zI J 3402 f_t_diary)] rfl ?_
    have g43 := zkr_p hsh
    replace hsh := zkr_k hsh
    refine z_if_eq (pc' := 24) (tgt := 28) dX9_addSlice_21 (by decide) g43 rfl (fun q => ?_) (fun q => ?_)
    · replace hsh := zif_t q hsh
      refine z_iconst (pc' := 29) dX9_addSlice_28 rfl ?_
      refine z_istore (pc' := 31) [(4, .int (zi (0 : Int))), (0, .ref a_t), (1, .int (zi p0)), (2, .int (zi p1)), (3, .int (zi p2))] dX9_addSlice_29 (by decide) rfl rfl ?_
      refine z_aload_n (pc' := 32) 1 dX9_addSlice_31 rfl rfl rfl ?_
      refine z_aload_n (pc' := 33) 1 dX9_addSlice_32 rfl rfl rfl ?_
      refine z_iload_n (pc' := 34) 2 dX9_addSlice_33 rfl rfl rfl ?_
      obtain ⟨q44, h45, hsh⟩ := zbind hsh
      refine z_callV (pc' := 37) (C := RX9) (As := [.int (zi p0)]) (rest := [.ref a_t]) (wr := [(a_t_now, zI J 243 f_t_now), (a_t_diary, zI J 3402 f_t_diary)]) 1 (zc_X9_isPoint l D J F (a_t := a_t) (a_t_now := a_t_now) (a_t_trial := a_t_trial) (a_t_diary := a_t_diary) (a_t_kept := a_t_kept) (a_t_isKept := a_t_isKept) (a_t_script := a_t_script) (a_t_read := a_t_read) (a_t_wanted := a_t_wanted) (a_t_level := a_t_level) (a_t_chosen := a_t_chosen) (a_t_best := a_t_best) (c_t_refusal := c_t_refusal) (c_t_high := c_t_high) (c_t_wide := c_t_wide) (c_t_acts := c_t_acts) (c_t_next := c_t_next) (c_t_scriptSize := c_t_scriptSize) (c_t_spot := c_t_spot) (c_t_readHigh := c_t_readHigh) (c_t_readWide := c_t_readWide) (p0 := p0)  q44 h45) dX9_addSlice_34 gX9_addSlice_X9_isPoint rfl rfl rfl (by decide +kernel) ⟨Nat.le_of_ble_eq_true rfl, Nat.le_of_ble_eq_true rfl⟩ ⟨Nat.le_of_ble_eq_true rfl, Nat.le_of_ble_eq_true rfl⟩ (z_spl_of [0, 1, 2] rfl rfl) rfl rfl rfl rfl (Nat.le_of_ble_eq_true rfl) rfl (fun rv w9 hq => ?_)
      obtain ⟨rfl, rfl⟩ := hq
      refine z_ws [(a_t_now, zI J 243 f_t_now), (a_t_diary, zI J 3402 f_t_diary), (a_t, .inr (8, [.int (zi c_t_refusal), .int (zi c_t_high), .int (zi c_t_wide), .ref a_t_now, .ref a_t_trial, .ref a_t_diary, .int (zi c_t_acts), .int (zi c_t_next), .ref a_t_kept, .ref a_t_isKept, .ref a_t_script, .int (zi c_t_scriptSize), .int (zi c_t_spot), .ref a_t_read, .int (zi c_t_readHigh), .int (zi c_t_readWide), .ref a_t_wanted, .ref a_t_level, .ref a_t_chosen, .ref a_t_best]))] rfl ?_
      have g46 := zkr_p hsh
      replace hsh := zkr_k hsh
      refine z_if_ne (pc' := 40) (tgt := 44) dX9_addSlice_37 (by decide) g46 rfl (fun q => ?_) (fun q => ?_)
      · replace hsh := zif_f q hsh
        refine z_iload (pc' := 46) 0 dX9_addSlice_44 rfl rfl ?_
        refine z_if_ne (pc' := 49) (tgt := 53) dX9_addSlice_46 (by decide) zr0 rfl (fun q => ?_) (fun q => ?_)
        · replace hsh := zif_f q hsh
          refine z_aload_n (pc' := 54) 1 dX9_addSlice_53 rfl rfl rfl ?_
          refine z_getfield (pc' := 57) (C := RX9) (T := TX9) (N := 20) 2 3 dX9_addSlice_54 iX9_addSlice_X9 rfl rfl (by decide) mX9_addSlice_f16 rfl rfl ?_
          refine z_bipush (pc' := 59) dX9_addSlice_57 (by decide) rfl ?_
          refine z_iload_n (pc' := 60) 2 dX9_addSlice_59 rfl rfl rfl ?_
          refine z_imul (pc' := 61) dX9_addSlice_60 rfl ?_
          refine z_iconst (pc' := 62) dX9_addSlice_61 rfl ?_
          refine z_iadd (pc' := 63) dX9_addSlice_62 rfl ?_
          have g47 := zkx_p hsh
          replace hsh := zkx_k hsh
          refine z_iaload (pc' := 64) 0 dX9_addSlice_63 rfl (by decide) g47 rfl ?_
          refine z_bipush (pc' := 66) dX9_addSlice_64 (by decide) rfl ?_
          have g48 := zkr_p hsh
          replace hsh := zkr_k hsh
          refine z_icmp_ne (pc' := 69) (tgt := 73) dX9_addSlice_66 (by decide) g48 (by decide) rfl (fun q => ?_) (fun q => ?_)
          · replace hsh := zif_f q hsh
            refine z_iconst (pc' := 74) dX9_addSlice_73 rfl ?_
            obtain ⟨q49, h50, hsh⟩ := zbind hsh
            refine z_callV (pc' := 77) (C := RX9) (As := [.int (zi (0 : Int))]) (rest := []) (wr := [(a_t_now, zI J 243 f_t_now), (a_t_diary, zI J 3402 f_t_diary)]) 1 (zc_X9_refused l D J F (a_t := a_t) (a_t_now := a_t_now) (a_t_trial := a_t_trial) (a_t_diary := a_t_diary) (a_t_kept := a_t_kept) (a_t_isKept := a_t_isKept) (a_t_script := a_t_script) (a_t_read := a_t_read) (a_t_wanted := a_t_wanted) (a_t_level := a_t_level) (a_t_chosen := a_t_chosen) (a_t_best := a_t_best) (c_t_refusal := c_t_refusal) (c_t_high := c_t_high) (c_t_wide := c_t_wide) (c_t_acts := c_t_acts) (c_t_next := c_t_next) (c_t_scriptSize := c_t_scriptSize) (c_t_spot := c_t_spot) (c_t_readHigh := c_t_readHigh) (c_t_readWide := c_t_readWide) (p0 := (0 : Int))  q49 h50) dX9_addSlice_74 gX9_addSlice_X9_refused rfl rfl rfl (by decide +kernel) ⟨Nat.le_of_ble_eq_true rfl, Nat.le_of_ble_eq_true rfl⟩ ⟨Nat.le_of_ble_eq_true rfl, Nat.le_of_ble_eq_true rfl⟩ (z_spl_of [2, 0, 1] rfl rfl) rfl rfl rfl rfl (Nat.le_of_ble_eq_true rfl) rfl (fun rv w9 hq => ?_)
            obtain ⟨rfl, rfl⟩ := hq
            refine z_ws [(a_t_now, zI J 243 f_t_now), (a_t_diary, zI J 3402 f_t_diary), (a_t, .inr (8, [.int (zi q49.2), .int (zi c_t_high), .int (zi c_t_wide), .ref a_t_now, .ref a_t_trial, .ref a_t_diary, .int (zi c_t_acts), .int (zi c_t_next), .ref a_t_kept, .ref a_t_isKept, .ref a_t_script, .int (zi c_t_scriptSize), .int (zi c_t_spot), .ref a_t_read, .int (zi c_t_readHigh), .int (zi c_t_readWide), .ref a_t_wanted, .ref a_t_level, .ref a_t_chosen, .ref a_t_best]))] rfl ?_
            have g51 := zkr_p hsh
            replace hsh := zkr_k hsh
            refine z_if_eq (pc' := 80) (tgt := 82) dX9_addSlice_77 (by decide) g51 rfl (fun q => ?_) (fun q => ?_)
            · replace hsh := zif_t q hsh
              refine z_aload_n (pc' := 83) 1 dX9_addSlice_82 rfl rfl rfl ?_
              obtain ⟨q52, h53, hsh⟩ := zbind hsh
              refine z_callV (pc' := 86) (C := RX9) (As := []) (rest := []) (wr := []) 0 (zc_X9_note l D J F (a_t := a_t) (a_t_now := a_t_now) (a_t_trial := a_t_trial) (a_t_diary := a_t_diary) (a_t_kept := a_t_kept) (a_t_isKept := a_t_isKept) (a_t_script := a_t_script) (a_t_read := a_t_read) (a_t_wanted := a_t_wanted) (a_t_level := a_t_level) (a_t_chosen := a_t_chosen) (a_t_best := a_t_best) (c_t_refusal := q49.2) (c_t_high := c_t_high) (c_t_wide := c_t_wide) (c_t_acts := c_t_acts) (c_t_next := c_t_next) (c_t_scriptSize := c_t_scriptSize) (c_t_spot := c_t_spot) (c_t_readHigh := c_t_readHigh) (c_t_readWide := c_t_readWide) (f_t_now := f_t_now) (f_t_diary := f_t_diary)  q52 h53) dX9_addSlice_83 gX9_addSlice_X9_note rfl rfl rfl (by decide +kernel) ⟨Nat.le_of_ble_eq_true rfl, Nat.le_of_ble_eq_true rfl⟩ ⟨Nat.le_of_ble_eq_true rfl, Nat.le_of_ble_eq_true rfl⟩ (z_spl_of [2, 0, 1] rfl rfl) rfl rfl rfl rfl (Nat.le_of_ble_eq_true rfl) rfl (fun rv w9 hq => ?_)
              obtain ⟨rfl, rfl⟩ := hq
              refine z_ws [(a_t, .inr (8, [.int (zi q49.2), .int (zi c_t_high), .int (zi c_t_wide), .ref a_t_now, .ref a_t_trial, .ref a_t_diary, .int (zi q52.1), .int (zi q52.2.1), .ref a_t_kept, .ref a_t_isKept, .ref a_t_script, .int (zi c_t_scriptSize), .int (zi c_t_spot), .ref a_t_read, .int (zi c_t_readHigh), .int (zi c_t_readWide), .ref a_t_wanted, .ref a_t_level, .ref a_t_chosen, .ref a_t_best])), (a_t_now, zI J 243 f_t_now), (a_t_diary, zI J 3402 q52.2.2)] rfl ?_
              refine z_bipush (pc' := 88) dX9_addSlice_86 (by decide) rfl ?_
              refine z_iload_n (pc' := 89) 2 dX9_addSlice_88 rfl rfl rfl ?_
              refine z_imul (pc' := 90) dX9_addSlice_89 rfl ?_
              refine z_iconst (pc' := 91) dX9_addSlice_90 rfl ?_
              refine z_iadd (pc' := 92) dX9_addSlice_91 rfl ?_
              refine z_iconst (pc' := 93) dX9_addSlice_92 rfl ?_
              refine z_aload_n (pc' := 94) 1 dX9_addSlice_93 rfl rfl rfl ?_
              refine z_getfield (pc' := 97) (C := RX9) (T := TX9) (N := 20) 0 3 dX9_addSlice_94 iX9_addSlice_X9 rfl rfl (by decide) mX9_addSlice_f16 rfl rfl ?_
              refine z_bipush (pc' := 99) dX9_addSlice_97 (by decide) rfl ?_
              refine z_iload_n (pc' := 100) 2 dX9_addSlice_99 rfl rfl rfl ?_
              refine z_imul (pc' := 101) dX9_addSlice_100 rfl ?_
              refine z_iconst (pc' := 102) dX9_addSlice_101 rfl ?_
              refine z_iadd (pc' := 103) dX9_addSlice_102 rfl ?_
              refine z_iaload (pc' := 104) 1 dX9_addSlice_103 rfl (by decide) g47 rfl ?_
              refine z_imul (pc' := 105) dX9_addSlice_104 rfl ?_
              refine z_iadd (pc' := 106) dX9_addSlice_105 rfl ?_
              refine z_istore (pc' := 108) [(5, .int (zi ((((15 : Int) * p0) + (3 : Int)) + ((2 : Int) * (f_t_now ((((15 : Int) * p0) + (2 : Int))).toNat))))), (4, .int (zi (0 : Int))), (0, .ref a_t), (1, .int (zi p0)), (2, .int (zi p1)), (3, .int (zi p2))] dX9_addSlice_106 (by decide) rfl rfl ?_
              refine z_aload_n (pc' := 109) 2 dX9_addSlice_108 rfl rfl rfl ?_
              refine z_getfield (pc' := 112) (C := RX9) (T := TX9) (N := 20) 0 3 dX9_addSlice_109 iX9_addSlice_X9 rfl rfl (by decide) mX9_addSlice_f16 rfl rfl ?_
              refine z_iload (pc' := 114) 0 dX9_addSlice_112 rfl rfl ?_
              refine z_iload_n (pc' := 115) 4 dX9_addSlice_114 rfl rfl rfl ?_
              have g54 := zkx_p hsh
              replace hsh := zkx_k hsh
              refine z_iastore (pc' := 116) 1 [(a_t, .inr (8, [.int (zi q49.2), .int (zi c_t_high), .int (zi c_t_wide), .ref a_t_now, .ref a_t_trial, .ref a_t_diary, .int (zi q52.1), .int (zi q52.2.1), .ref a_t_kept, .ref a_t_isKept, .ref a_t_script, .int (zi c_t_scriptSize), .int (zi c_t_spot), .ref a_t_read, .int (zi c_t_readHigh), .int (zi c_t_readWide), .ref a_t_wanted, .ref a_t_level, .ref a_t_chosen, .ref a_t_best])), (a_t_now, zI J 243 (va_up f_t_now (((((15 : Int) * p0) + (3 : Int)) + ((2 : Int) * (f_t_now ((((15 : Int) * p0) + (2 : Int))).toNat)))).toNat p1)), (a_t_diary, zI J 3402 q52.2.2)] dX9_addSlice_115 rfl (by decide) g54 rfl rfl ?_
              refine z_aload_n (pc' := 117) 2 dX9_addSlice_116 rfl rfl rfl ?_
              refine z_getfield (pc' := 120) (C := RX9) (T := TX9) (N := 20) 0 3 dX9_addSlice_117 iX9_addSlice_X9 rfl rfl (by decide) mX9_addSlice_f16 rfl rfl ?_
              refine z_iload (pc' := 122) 0 dX9_addSlice_120 rfl rfl ?_
              refine z_iconst (pc' := 123) dX9_addSlice_122 rfl ?_
              refine z_iadd (pc' := 124) dX9_addSlice_123 rfl ?_
              refine z_iload_n (pc' := 125) 5 dX9_addSlice_124 rfl rfl rfl ?_
              have g55 := zkx_p hsh
              replace hsh := zkx_k hsh
              refine z_iastore (pc' := 126) 1 [(a_t, .inr (8, [.int (zi q49.2), .int (zi c_t_high), .int (zi c_t_wide), .ref a_t_now, .ref a_t_trial, .ref a_t_diary, .int (zi q52.1), .int (zi q52.2.1), .ref a_t_kept, .ref a_t_isKept, .ref a_t_script, .int (zi c_t_scriptSize), .int (zi c_t_spot), .ref a_t_read, .int (zi c_t_readHigh), .int (zi c_t_readWide), .ref a_t_wanted, .ref a_t_level, .ref a_t_chosen, .ref a_t_best])), (a_t_now, zI J 243 (va_up (va_up f_t_now (((((15 : Int) * p0) + (3 : Int)) + ((2 : Int) * (f_t_now ((((15 : Int) * p0) + (2 : Int))).toNat)))).toNat p1) ((((((15 : Int) * p0) + (3 : Int)) + ((2 : Int) * (f_t_now ((((15 : Int) * p0) + (2 : Int))).toNat))) + (1 : Int))).toNat p2)), (a_t_diary, zI J 3402 q52.2.2)] dX9_addSlice_125 rfl (by decide) g55 rfl rfl ?_
              refine z_aload_n (pc' := 127) 2 dX9_addSlice_126 rfl rfl rfl ?_
              refine z_getfield (pc' := 130) (C := RX9) (T := TX9) (N := 20) 0 3 dX9_addSlice_127 iX9_addSlice_X9 rfl rfl (by decide) mX9_addSlice_f16 rfl rfl ?_
              refine z_bipush (pc' := 132) dX9_addSlice_130 (by decide) rfl ?_
              refine z_iload_n (pc' := 133) 3 dX9_addSlice_132 rfl rfl rfl ?_
              refine z_imul (pc' := 134) dX9_addSlice_133 rfl ?_
              refine z_iconst (pc' := 135) dX9_addSlice_134 rfl ?_
              refine z_iadd (pc' := 136) dX9_addSlice_135 rfl ?_
              refine z_dup2 (pc' := 137) dX9_addSlice_136 rfl rfl rfl ?_
              refine z_iaload (pc' := 138) 1 dX9_addSlice_137 rfl (by decide) g47 rfl ?_
              refine z_iconst (pc' := 139) dX9_addSlice_138 rfl ?_
              refine z_iadd (pc' := 140) dX9_addSlice_139 rfl ?_
              refine z_iastore (pc' := 141) 1 [(a_t, .inr (8, [.int (zi q49.2), .int (zi c_t_high), .int (zi c_t_wide), .ref a_t_now, .ref a_t_trial, .ref a_t_diary, .int (zi q52.1), .int (zi q52.2.1), .ref a_t_kept, .ref a_t_isKept, .ref a_t_script, .int (zi c_t_scriptSize), .int (zi c_t_spot), .ref a_t_read, .int (zi c_t_readHigh), .int (zi c_t_readWide), .ref a_t_wanted, .ref a_t_level, .ref a_t_chosen, .ref a_t_best])), (a_t_now, zI J 243 (va_up (va_up (va_up f_t_now (((((15 : Int) * p0) + (3 : Int)) + ((2 : Int) * (f_t_now ((((15 : Int) * p0) + (2 : Int))).toNat)))).toNat p1) ((((((15 : Int) * p0) + (3 : Int)) + ((2 : Int) * (f_t_now ((((15 : Int) * p0) + (2 : Int))).toNat))) + (1 : Int))).toNat p2) ((((15 : Int) * p0) + (2 : Int))).toNat (((va_up (va_up f_t_now (((((15 : Int) * p0) + (3 : Int)) + ((2 : Int) * (f_t_now ((((15 : Int) * p0) + (2 : Int))).toNat)))).toNat p1) ((((((15 : Int) * p0) + (3 : Int)) + ((2 : Int) * (f_t_now ((((15 : Int) * p0) + (2 : Int))).toNat))) + (1 : Int))).toNat p2) ((((15 : Int) * p0) + (2 : Int))).toNat) + (1 : Int)))), (a_t_diary, zI J 3402 q52.2.2)] dX9_addSlice_140 rfl (by decide) g47 rfl rfl ?_
              refine z_aload_n (pc' := 142) 2 dX9_addSlice_141 rfl rfl rfl ?_
              refine z_getfield (pc' := 145) (C := RX9) (T := TX9) (N := 20) 0 3 dX9_addSlice_142 iX9_addSlice_X9 rfl rfl (by decide) mX9_addSlice_f16 rfl rfl ?_
              refine z_bipush (pc' := 147) dX9_addSlice_145 (by decide) rfl ?_
              refine z_iload_n (pc' := 148) 3 dX9_addSlice_147 rfl rfl rfl ?_
              refine z_imul (pc' := 149) dX9_addSlice_148 rfl ?_
              refine z_iconst (pc' := 150) dX9_addSlice_149 rfl ?_
              refine z_iadd (pc' := 151) dX9_addSlice_150 rfl ?_
              refine z_iaload (pc' := 152) 1 dX9_addSlice_151 rfl (by decide) g47 rfl ?_
              cases hsh
              exact z_iret rfl dX9_addSlice_152 ⟨rfl, rfl⟩
            · replace hsh := zif_f q hsh
              refine z_iconst (pc' := 81) dX9_addSlice_80 rfl ?_
              refine z_perm [(a_t, .inr (8, [.int (zi q49.2), .int (zi c_t_high), .int (zi c_t_wide), .ref a_t_now, .ref a_t_trial, .ref a_t_diary, .int (zi c_t_acts), .int (zi c_t_next), .ref a_t_kept, .ref a_t_isKept, .ref a_t_script, .int (zi c_t_scriptSize), .int (zi c_t_spot), .ref a_t_read, .int (zi c_t_readHigh), .int (zi c_t_readWide), .ref a_t_wanted, .ref a_t_level, .ref a_t_chosen, .ref a_t_best])), (a_t_now, zI J 243 f_t_now), (a_t_diary, zI J 3402 f_t_diary)] [(4, .int (zi (0 : Int))), (0, .ref a_t), (1, .int (zi p0)), (2, .int (zi p1)), (3, .int (zi p2))] [2, 0, 1] [0, 1, 2, 3, 4] rfl rfl rfl ?_
              cases hsh
              exact z_iret rfl dX9_addSlice_81 ⟨rfl, rfl⟩
          · replace hsh := zif_t q hsh
            refine z_iconst (pc' := 70) dX9_addSlice_69 rfl ?_
            refine z_goto (tgt := 74) dX9_addSlice_70 (by decide) ?_
            obtain ⟨q56, h57, hsh⟩ := zbind hsh
            refine z_callV (pc' := 77) (C := RX9) (As := [.int (zi (3 : Int))]) (rest := []) (wr := [(a_t_now, zI J 243 f_t_now), (a_t_diary, zI J 3402 f_t_diary)]) 1 (zc_X9_refused l D J F (a_t := a_t) (a_t_now := a_t_now) (a_t_trial := a_t_trial) (a_t_diary := a_t_diary) (a_t_kept := a_t_kept) (a_t_isKept := a_t_isKept) (a_t_script := a_t_script) (a_t_read := a_t_read) (a_t_wanted := a_t_wanted) (a_t_level := a_t_level) (a_t_chosen := a_t_chosen) (a_t_best := a_t_best) (c_t_refusal := c_t_refusal) (c_t_high := c_t_high) (c_t_wide := c_t_wide) (c_t_acts := c_t_acts) (c_t_next := c_t_next) (c_t_scriptSize := c_t_scriptSize) (c_t_spot := c_t_spot) (c_t_readHigh := c_t_readHigh) (c_t_readWide := c_t_readWide) (p0 := (3 : Int))  q56 h57) dX9_addSlice_74 gX9_addSlice_X9_refused rfl rfl rfl (by decide +kernel) ⟨Nat.le_of_ble_eq_true rfl, Nat.le_of_ble_eq_true rfl⟩ ⟨Nat.le_of_ble_eq_true rfl, Nat.le_of_ble_eq_true rfl⟩ (z_spl_of [2, 0, 1] rfl rfl) rfl rfl rfl rfl (Nat.le_of_ble_eq_true rfl) rfl (fun rv w9 hq => ?_)
            obtain ⟨rfl, rfl⟩ := hq
            refine z_ws [(a_t_now, zI J 243 f_t_now), (a_t_diary, zI J 3402 f_t_diary), (a_t, .inr (8, [.int (zi q56.2), .int (zi c_t_high), .int (zi c_t_wide), .ref a_t_now, .ref a_t_trial, .ref a_t_diary, .int (zi c_t_acts), .int (zi c_t_next), .ref a_t_kept, .ref a_t_isKept, .ref a_t_script, .int (zi c_t_scriptSize), .int (zi c_t_spot), .ref a_t_read, .int (zi c_t_readHigh), .int (zi c_t_readWide), .ref a_t_wanted, .ref a_t_level, .ref a_t_chosen, .ref a_t_best]))] rfl ?_
            have g58 := zkr_p hsh
            replace hsh := zkr_k hsh
            refine z_if_eq (pc' := 80) (tgt := 82) dX9_addSlice_77 (by decide) g58 rfl (fun q => ?_) (fun q => ?_)
            · replace hsh := zif_t q hsh
              refine z_aload_n (pc' := 83) 1 dX9_addSlice_82 rfl rfl rfl ?_
              obtain ⟨q59, h60, hsh⟩ := zbind hsh
              refine z_callV (pc' := 86) (C := RX9) (As := []) (rest := []) (wr := []) 0 (zc_X9_note l D J F (a_t := a_t) (a_t_now := a_t_now) (a_t_trial := a_t_trial) (a_t_diary := a_t_diary) (a_t_kept := a_t_kept) (a_t_isKept := a_t_isKept) (a_t_script := a_t_script) (a_t_read := a_t_read) (a_t_wanted := a_t_wanted) (a_t_level := a_t_level) (a_t_chosen := a_t_chosen) (a_t_best := a_t_best) (c_t_refusal := q56.2) (c_t_high := c_t_high) (c_t_wide := c_t_wide) (c_t_acts := c_t_acts) (c_t_next := c_t_next) (c_t_scriptSize := c_t_scriptSize) (c_t_spot := c_t_spot) (c_t_readHigh := c_t_readHigh) (c_t_readWide := c_t_readWide) (f_t_now := f_t_now) (f_t_diary := f_t_diary)  q59 h60) dX9_addSlice_83 gX9_addSlice_X9_note rfl rfl rfl (by decide +kernel) ⟨Nat.le_of_ble_eq_true rfl, Nat.le_of_ble_eq_true rfl⟩ ⟨Nat.le_of_ble_eq_true rfl, Nat.le_of_ble_eq_true rfl⟩ (z_spl_of [2, 0, 1] rfl rfl) rfl rfl rfl rfl (Nat.le_of_ble_eq_true rfl) rfl (fun rv w9 hq => ?_)
              obtain ⟨rfl, rfl⟩ := hq
              refine z_ws [(a_t, .inr (8, [.int (zi q56.2), .int (zi c_t_high), .int (zi c_t_wide), .ref a_t_now, .ref a_t_trial, .ref a_t_diary, .int (zi q59.1), .int (zi q59.2.1), .ref a_t_kept, .ref a_t_isKept, .ref a_t_script, .int (zi c_t_scriptSize), .int (zi c_t_spot), .ref a_t_read, .int (zi c_t_readHigh), .int (zi c_t_readWide), .ref a_t_wanted, .ref a_t_level, .ref a_t_chosen, .ref a_t_best])), (a_t_now, zI J 243 f_t_now), (a_t_diary, zI J 3402 q59.2.2)] rfl ?_
              refine z_bipush (pc' := 88) dX9_addSlice_86 (by decide) rfl ?_
              refine z_iload_n (pc' := 89) 2 dX9_addSlice_88 rfl rfl rfl ?_
              refine z_imul (pc' := 90) dX9_addSlice_89 rfl ?_
              refine z_iconst (pc' := 91) dX9_addSlice_90 rfl ?_
              refine z_iadd (pc' := 92) dX9_addSlice_91 rfl ?_
              refine z_iconst (pc' := 93) dX9_addSlice_92 rfl ?_
              refine z_aload_n (pc' := 94) 1 dX9_addSlice_93 rfl rfl rfl ?_
              refine z_getfield (pc' := 97) (C := RX9) (T := TX9) (N := 20) 0 3 dX9_addSlice_94 iX9_addSlice_X9 rfl rfl (by decide) mX9_addSlice_f16 rfl rfl ?_
              refine z_bipush (pc' := 99) dX9_addSlice_97 (by decide) rfl ?_
              refine z_iload_n (pc' := 100) 2 dX9_addSlice_99 rfl rfl rfl ?_
              refine z_imul (pc' := 101) dX9_addSlice_100 rfl ?_
              refine z_iconst (pc' := 102) dX9_addSlice_101 rfl ?_
              refine z_iadd (pc' := 103) dX9_addSlice_102 rfl ?_
              refine z_iaload (pc' := 104) 1 dX9_addSlice_103 rfl (by decide) g47 rfl ?_
              refine z_imul (pc' := 105) dX9_addSlice_104 rfl ?_
              refine z_iadd (pc' := 106) dX9_addSlice_105 rfl ?_
              refine z_istore (pc' := 108) [(5, .int (zi ((((15 : Int) * p0) + (3 : Int)) + ((2 : Int) * (f_t_now ((((15 : Int) * p0) + (2 : Int))).toNat))))), (4, .int (zi (0 : Int))), (0, .ref a_t), (1, .int (zi p0)), (2, .int (zi p1)), (3, .int (zi p2))] dX9_addSlice_106 (by decide) rfl rfl ?_
              refine z_aload_n (pc' := 109) 2 dX9_addSlice_108 rfl rfl rfl ?_
              refine z_getfield (pc' := 112) (C := RX9) (T := TX9) (N := 20) 0 3 dX9_addSlice_109 iX9_addSlice_X9 rfl rfl (by decide) mX9_addSlice_f16 rfl rfl ?_
              refine z_iload (pc' := 114) 0 dX9_addSlice_112 rfl rfl ?_
              refine z_iload_n (pc' := 115) 4 dX9_addSlice_114 rfl rfl rfl ?_
              have g61 := zkx_p hsh
              replace hsh := zkx_k hsh
              refine z_iastore (pc' := 116) 1 [(a_t, .inr (8, [.int (zi q56.2), .int (zi c_t_high), .int (zi c_t_wide), .ref a_t_now, .ref a_t_trial, .ref a_t_diary, .int (zi q59.1), .int (zi q59.2.1), .ref a_t_kept, .ref a_t_isKept, .ref a_t_script, .int (zi c_t_scriptSize), .int (zi c_t_spot), .ref a_t_read, .int (zi c_t_readHigh), .int (zi c_t_readWide), .ref a_t_wanted, .ref a_t_level, .ref a_t_chosen, .ref a_t_best])), (a_t_now, zI J 243 (va_up f_t_now (((((15 : Int) * p0) + (3 : Int)) + ((2 : Int) * (f_t_now ((((15 : Int) * p0) + (2 : Int))).toNat)))).toNat p1)), (a_t_diary, zI J 3402 q59.2.2)] dX9_addSlice_115 rfl (by decide) g61 rfl rfl ?_
              refine z_aload_n (pc' := 117) 2 dX9_addSlice_116 rfl rfl rfl ?_
              refine z_getfield (pc' := 120) (C := RX9) (T := TX9) (N := 20) 0 3 dX9_addSlice_117 iX9_addSlice_X9 rfl rfl (by decide) mX9_addSlice_f16 rfl rfl ?_
              refine z_iload (pc' := 122) 0 dX9_addSlice_120 rfl rfl ?_
              refine z_iconst (pc' := 123) dX9_addSlice_122 rfl ?_
              refine z_iadd (pc' := 124) dX9_addSlice_123 rfl ?_
              refine z_iload_n (pc' := 125) 5 dX9_addSlice_124 rfl rfl rfl ?_
              have g62 := zkx_p hsh
              replace hsh := zkx_k hsh
              refine z_iastore (pc' := 126) 1 [(a_t, .inr (8, [.int (zi q56.2), .int (zi c_t_high), .int (zi c_t_wide), .ref a_t_now, .ref a_t_trial, .ref a_t_diary, .int (zi q59.1), .int (zi q59.2.1), .ref a_t_kept, .ref a_t_isKept, .ref a_t_script, .int (zi c_t_scriptSize), .int (zi c_t_spot), .ref a_t_read, .int (zi c_t_readHigh), .int (zi c_t_readWide), .ref a_t_wanted, .ref a_t_level, .ref a_t_chosen, .ref a_t_best])), (a_t_now, zI J 243 (va_up (va_up f_t_now (((((15 : Int) * p0) + (3 : Int)) + ((2 : Int) * (f_t_now ((((15 : Int) * p0) + (2 : Int))).toNat)))).toNat p1) ((((((15 : Int) * p0) + (3 : Int)) + ((2 : Int) * (f_t_now ((((15 : Int) * p0) + (2 : Int))).toNat))) + (1 : Int))).toNat p2)), (a_t_diary, zI J 3402 q59.2.2)] dX9_addSlice_125 rfl (by decide) g62 rfl rfl ?_
              refine z_aload_n (pc' := 127) 2 dX9_addSlice_126 rfl rfl rfl ?_
              refine z_getfield (pc' := 130) (C := RX9) (T := TX9) (N := 20) 0 3 dX9_addSlice_127 iX9_addSlice_X9 rfl rfl (by decide) mX9_addSlice_f16 rfl rfl ?_
              refine z_bipush (pc' := 132) dX9_addSlice_130 (by decide) rfl ?_
              refine z_iload_n (pc' := 133) 3 dX9_addSlice_132 rfl rfl rfl ?_
              refine z_imul (pc' := 134) dX9_addSlice_133 rfl ?_
              refine z_iconst (pc' := 135) dX9_addSlice_134 rfl ?_
              refine z_iadd (pc' := 136) dX9_addSlice_135 rfl ?_
              refine z_dup2 (pc' := 137) dX9_addSlice_136 rfl rfl rfl ?_
              refine z_iaload (pc' := 138) 1 dX9_addSlice_137 rfl (by decide) g47 rfl ?_
              refine z_iconst (pc' := 139) dX9_addSlice_138 rfl ?_
              refine z_iadd (pc' := 140) dX9_addSlice_139 rfl ?_
              refine z_iastore (pc' := 141) 1 [(a_t, .inr (8, [.int (zi q56.2), .int (zi c_t_high), .int (zi c_t_wide), .ref a_t_now, .ref a_t_trial, .ref a_t_diary, .int (zi q59.1), .int (zi q59.2.1), .ref a_t_kept, .ref a_t_isKept, .ref a_t_script, .int (zi c_t_scriptSize), .int (zi c_t_spot), .ref a_t_read, .int (zi c_t_readHigh), .int (zi c_t_readWide), .ref a_t_wanted, .ref a_t_level, .ref a_t_chosen, .ref a_t_best])), (a_t_now, zI J 243 (va_up (va_up (va_up f_t_now (((((15 : Int) * p0) + (3 : Int)) + ((2 : Int) * (f_t_now ((((15 : Int) * p0) + (2 : Int))).toNat)))).toNat p1) ((((((15 : Int) * p0) + (3 : Int)) + ((2 : Int) * (f_t_now ((((15 : Int) * p0) + (2 : Int))).toNat))) + (1 : Int))).toNat p2) ((((15 : Int) * p0) + (2 : Int))).toNat (((va_up (va_up f_t_now (((((15 : Int) * p0) + (3 : Int)) + ((2 : Int) * (f_t_now ((((15 : Int) * p0) + (2 : Int))).toNat)))).toNat p1) ((((((15 : Int) * p0) + (3 : Int)) + ((2 : Int) * (f_t_now ((((15 : Int) * p0) + (2 : Int))).toNat))) + (1 : Int))).toNat p2) ((((15 : Int) * p0) + (2 : Int))).toNat) + (1 : Int)))), (a_t_diary, zI J 3402 q59.2.2)] dX9_addSlice_140 rfl (by decide) g47 rfl rfl ?_
              refine z_aload_n (pc' := 142) 2 dX9_addSlice_141 rfl rfl rfl ?_
              refine z_getfield (pc' := 145) (C := RX9) (T := TX9) (N := 20) 0 3 dX9_addSlice_142 iX9_addSlice_X9 rfl rfl (by decide) mX9_addSlice_f16 rfl rfl ?_
              refine z_bipush (pc' := 147) dX9_addSlice_145 (by decide) rfl ?_
              refine z_iload_n (pc' := 148) 3 dX9_addSlice_147 rfl rfl rfl ?_
              refine z_imul (pc' := 149) dX9_addSlice_148 rfl ?_
              refine z_iconst (pc' := 150) dX9_addSlice_149 rfl ?_
              refine z_iadd (pc' := 151) dX9_addSlice_150 rfl ?_
              refine z_iaload (pc' := 152) 1 dX9_addSlice_151 rfl (by decide) g47 rfl ?_
              cases hsh
              exact z_iret rfl dX9_addSlice_152 ⟨rfl, rfl⟩
            · replace hsh := zif_f q hsh
              refine z_iconst (pc' := 81) dX9_addSlice_80 rfl ?_
              refine z_perm [(a_t, .inr (8, [.int (zi q56.2), .int (zi c_t_high), .int (zi c_t_wide), .ref a_t_now, .ref a_t_trial, .ref a_t_diary, .int (zi c_t_acts), .int (zi c_t_next), .ref a_t_kept, .ref a_t_isKept, .ref a_t_script, .int (zi c_t_scriptSize), .int (zi c_t_spot), .ref a_t_read, .int (zi c_t_readHigh), .int (zi c_t_readWide), .ref a_t_wanted, .ref a_t_level, .ref a_t_chosen, .ref a_t_best])), (a_t_now, zI J 243 f_t_now), (a_t_diary, zI J 3402 f_t_diary)] [(4, .int (zi (0 : Int))), (0, .ref a_t), (1, .int (zi p0)), (2, .int (zi p1)), (3, .int (zi p2))] [2, 0, 1] [0, 1, 2, 3, 4] rfl rfl rfl ?_
              cases hsh
              exact z_iret rfl dX9_addSlice_81 ⟨rfl, rfl⟩
        · replace hsh := zif_t q hsh
          refine z_iconst (pc' := 50) dX9_addSlice_49 rfl ?_
          refine z_goto (tgt := 74) dX9_addSlice_50 (by decide) ?_
          obtain ⟨q63, h64, hsh⟩ := zbind hsh
          refine z_callV (pc' := 77) (C := RX9) (As := [.int (zi (2 : Int))]) (rest := []) (wr := [(a_t_now, zI J 243 f_t_now), (a_t_diary, zI J 3402 f_t_diary)]) 1 (zc_X9_refused l D J F (a_t := a_t) (a_t_now := a_t_now) (a_t_trial := a_t_trial) (a_t_diary := a_t_diary) (a_t_kept := a_t_kept) (a_t_isKept := a_t_isKept) (a_t_script := a_t_script) (a_t_read := a_t_read) (a_t_wanted := a_t_wanted) (a_t_level := a_t_level) (a_t_chosen := a_t_chosen) (a_t_best := a_t_best) (c_t_refusal := c_t_refusal) (c_t_high := c_t_high) (c_t_wide := c_t_wide) (c_t_acts := c_t_acts) (c_t_next := c_t_next) (c_t_scriptSize := c_t_scriptSize) (c_t_spot := c_t_spot) (c_t_readHigh := c_t_readHigh) (c_t_readWide := c_t_readWide) (p0 := (2 : Int))  q63 h64) dX9_addSlice_74 gX9_addSlice_X9_refused rfl rfl rfl (by decide +kernel) ⟨Nat.le_of_ble_eq_true rfl, Nat.le_of_ble_eq_true rfl⟩ ⟨Nat.le_of_ble_eq_true rfl, Nat.le_of_ble_eq_true rfl⟩ (z_spl_of [2, 0, 1] rfl rfl) rfl rfl rfl rfl (Nat.le_of_ble_eq_true rfl) rfl (fun rv w9 hq => ?_)
          obtain ⟨rfl, rfl⟩ := hq
          refine z_ws [(a_t_now, zI J 243 f_t_now), (a_t_diary, zI J 3402 f_t_diary), (a_t, .inr (8, [.int (zi q63.2), .int (zi c_t_high), .int (zi c_t_wide), .ref a_t_now, .ref a_t_trial, .ref a_t_diary, .int (zi c_t_acts), .int (zi c_t_next), .ref a_t_kept, .ref a_t_isKept, .ref a_t_script, .int (zi c_t_scriptSize), .int (zi c_t_spot), .ref a_t_read, .int (zi c_t_readHigh), .int (zi c_t_readWide), .ref a_t_wanted, .ref a_t_level, .ref a_t_chosen, .ref a_t_best]))] rfl ?_
          have g65 := zkr_p hsh
          replace hsh := zkr_k hsh
          refine z_if_eq (pc' := 80) (tgt := 82) dX9_addSlice_77 (by decide) g65 rfl (fun q => ?_) (fun q => ?_)
          · replace hsh := zif_t q hsh
            refine z_aload_n (pc' := 83) 1 dX9_addSlice_82 rfl rfl rfl ?_
            obtain ⟨q66, h67, hsh⟩ := zbind hsh
            refine z_callV (pc' := 86) (C := RX9) (As := []) (rest := []) (wr := []) 0 (zc_X9_note l D J F (a_t := a_t) (a_t_now := a_t_now) (a_t_trial := a_t_trial) (a_t_diary := a_t_diary) (a_t_kept := a_t_kept) (a_t_isKept := a_t_isKept) (a_t_script := a_t_script) (a_t_read := a_t_read) (a_t_wanted := a_t_wanted) (a_t_level := a_t_level) (a_t_chosen := a_t_chosen) (a_t_best := a_t_best) (c_t_refusal := q63.2) (c_t_high := c_t_high) (c_t_wide := c_t_wide) (c_t_acts := c_t_acts) (c_t_next := c_t_next) (c_t_scriptSize := c_t_scriptSize) (c_t_spot := c_t_spot) (c_t_readHigh := c_t_readHigh) (c_t_readWide := c_t_readWide) (f_t_now := f_t_now) (f_t_diary := f_t_diary)  q66 h67) dX9_addSlice_83 gX9_addSlice_X9_note rfl rfl rfl (by decide +kernel) ⟨Nat.le_of_ble_eq_true rfl, Nat.le_of_ble_eq_true rfl⟩ ⟨Nat.le_of_ble_eq_true rfl, Nat.le_of_ble_eq_true rfl⟩ (z_spl_of [2, 0, 1] rfl rfl) rfl rfl rfl rfl (Nat.le_of_ble_eq_true rfl) rfl (fun rv w9 hq => ?_)
            obtain ⟨rfl, rfl⟩ := hq
            refine z_ws [(a_t, .inr (8, [.int (zi q63.2), .int (zi c_t_high), .int (zi c_t_wide), .ref a_t_now, .ref a_t_trial, .ref a_t_diary, .int (zi q66.1), .int (zi q66.2.1), .ref a_t_kept, .ref a_t_isKept, .ref a_t_script, .int (zi c_t_scriptSize), .int (zi c_t_spot), .ref a_t_read, .int (zi c_t_readHigh), .int (zi c_t_readWide), .ref a_t_wanted, .ref a_t_level, .ref a_t_chosen, .ref a_t_best])), (a_t_now, zI J 243 f_t_now), (a_t_diary, zI J 3402 q66.2.2)] rfl ?_
            refine z_bipush (pc' := 88) dX9_addSlice_86 (by decide) rfl ?_
            refine z_iload_n (pc' := 89) 2 dX9_addSlice_88 rfl rfl rfl ?_
            refine z_imul (pc' := 90) dX9_addSlice_89 rfl ?_
            refine z_iconst (pc' := 91) dX9_addSlice_90 rfl ?_
            refine z_iadd (pc' := 92) dX9_addSlice_91 rfl ?_
            refine z_iconst (pc' := 93) dX9_addSlice_92 rfl ?_
            refine z_aload_n (pc' := 94) 1 dX9_addSlice_93 rfl rfl rfl ?_
            refine z_getfield (pc' := 97) (C := RX9) (T := TX9) (N := 20) 0 3 dX9_addSlice_94 iX9_addSlice_X9 rfl rfl (by decide) mX9_addSlice_f16 rfl rfl ?_
            refine z_bipush (pc' := 99) dX9_addSlice_97 (by decide) rfl ?_
            refine z_iload_n (pc' := 100) 2 dX9_addSlice_99 rfl rfl rfl ?_
            refine z_imul (pc' := 101) dX9_addSlice_100 rfl ?_
            refine z_iconst (pc' := 102) dX9_addSlice_101 rfl ?_
            refine z_iadd (pc' := 103) dX9_addSlice_102 rfl ?_
            have g68 := zkx_p hsh
            replace hsh := zkx_k hsh
            refine z_iaload (pc' := 104) 1 dX9_addSlice_103 rfl (by decide) g68 rfl ?_
            refine z_imul (pc' := 105) dX9_addSlice_104 rfl ?_
            refine z_iadd (pc' := 106) dX9_addSlice_105 rfl ?_
            refine z_istore (pc' := 108) [(5, .int (zi ((((15 : Int) * p0) + (3 : Int)) + ((2 : Int) * (f_t_now ((((15 : Int) * p0) + (2 : Int))).toNat))))), (4, .int (zi (0 : Int))), (0, .ref a_t), (1, .int (zi p0)), (2, .int (zi p1)), (3, .int (zi p2))] dX9_addSlice_106 (by decide) rfl rfl ?_
            refine z_aload_n (pc' := 109) 2 dX9_addSlice_108 rfl rfl rfl ?_
            refine z_getfield (pc' := 112) (C := RX9) (T := TX9) (N := 20) 0 3 dX9_addSlice_109 iX9_addSlice_X9 rfl rfl (by decide) mX9_addSlice_f16 rfl rfl ?_
            refine z_iload (pc' := 114) 0 dX9_addSlice_112 rfl rfl ?_
            refine z_iload_n (pc' := 115) 4 dX9_addSlice_114 rfl rfl rfl ?_
            have g69 := zkx_p hsh
            replace hsh := zkx_k hsh
            refine z_iastore (pc' := 116) 1 [(a_t, .inr (8, [.int (zi q63.2), .int (zi c_t_high), .int (zi c_t_wide), .ref a_t_now, .ref a_t_trial, .ref a_t_diary, .int (zi q66.1), .int (zi q66.2.1), .ref a_t_kept, .ref a_t_isKept, .ref a_t_script, .int (zi c_t_scriptSize), .int (zi c_t_spot), .ref a_t_read, .int (zi c_t_readHigh), .int (zi c_t_readWide), .ref a_t_wanted, .ref a_t_level, .ref a_t_chosen, .ref a_t_best])), (a_t_now, zI J 243 (va_up f_t_now (((((15 : Int) * p0) + (3 : Int)) + ((2 : Int) * (f_t_now ((((15 : Int) * p0) + (2 : Int))).toNat)))).toNat p1)), (a_t_diary, zI J 3402 q66.2.2)] dX9_addSlice_115 rfl (by decide) g69 rfl rfl ?_
            refine z_aload_n (pc' := 117) 2 dX9_addSlice_116 rfl rfl rfl ?_
            refine z_getfield (pc' := 120) (C := RX9) (T := TX9) (N := 20) 0 3 dX9_addSlice_117 iX9_addSlice_X9 rfl rfl (by decide) mX9_addSlice_f16 rfl rfl ?_
            refine z_iload (pc' := 122) 0 dX9_addSlice_120 rfl rfl ?_
            refine z_iconst (pc' := 123) dX9_addSlice_122 rfl ?_
            refine z_iadd (pc' := 124) dX9_addSlice_123 rfl ?_
            refine z_iload_n (pc' := 125) 5 dX9_addSlice_124 rfl rfl rfl ?_
            have g70 := zkx_p hsh
            replace hsh := zkx_k hsh
            refine z_iastore (pc' := 126) 1 [(a_t, .inr (8, [.int (zi q63.2), .int (zi c_t_high), .int (zi c_t_wide), .ref a_t_now, .ref a_t_trial, .ref a_t_diary, .int (zi q66.1), .int (zi q66.2.1), .ref a_t_kept, .ref a_t_isKept, .ref a_t_script, .int (zi c_t_scriptSize), .int (zi c_t_spot), .ref a_t_read, .int (zi c_t_readHigh), .int (zi c_t_readWide), .ref a_t_wanted, .ref a_t_level, .ref a_t_chosen, .ref a_t_best])), (a_t_now, zI J 243 (va_up (va_up f_t_now (((((15 : Int) * p0) + (3 : Int)) + ((2 : Int) * (f_t_now ((((15 : Int) * p0) + (2 : Int))).toNat)))).toNat p1) ((((((15 : Int) * p0) + (3 : Int)) + ((2 : Int) * (f_t_now ((((15 : Int) * p0) + (2 : Int))).toNat))) + (1 : Int))).toNat p2)), (a_t_diary, zI J 3402 q66.2.2)] dX9_addSlice_125 rfl (by decide) g70 rfl rfl ?_
            refine z_aload_n (pc' := 127) 2 dX9_addSlice_126 rfl rfl rfl ?_
            refine z_getfield (pc' := 130) (C := RX9) (T := TX9) (N := 20) 0 3 dX9_addSlice_127 iX9_addSlice_X9 rfl rfl (by decide) mX9_addSlice_f16 rfl rfl ?_
            refine z_bipush (pc' := 132) dX9_addSlice_130 (by decide) rfl ?_
            refine z_iload_n (pc' := 133) 3 dX9_addSlice_132 rfl rfl rfl ?_
            refine z_imul (pc' := 134) dX9_addSlice_133 rfl ?_
            refine z_iconst (pc' := 135) dX9_addSlice_134 rfl ?_
            refine z_iadd (pc' := 136) dX9_addSlice_135 rfl ?_
            refine z_dup2 (pc' := 137) dX9_addSlice_136 rfl rfl rfl ?_
            refine z_iaload (pc' := 138) 1 dX9_addSlice_137 rfl (by decide) g68 rfl ?_
            refine z_iconst (pc' := 139) dX9_addSlice_138 rfl ?_
            refine z_iadd (pc' := 140) dX9_addSlice_139 rfl ?_
            refine z_iastore (pc' := 141) 1 [(a_t, .inr (8, [.int (zi q63.2), .int (zi c_t_high), .int (zi c_t_wide), .ref a_t_now, .ref a_t_trial, .ref a_t_diary, .int (zi q66.1), .int (zi q66.2.1), .ref a_t_kept, .ref a_t_isKept, .ref a_t_script, .int (zi c_t_scriptSize), .int (zi c_t_spot), .ref a_t_read, .int (zi c_t_readHigh), .int (zi c_t_readWide), .ref a_t_wanted, .ref a_t_level, .ref a_t_chosen, .ref a_t_best])), (a_t_now, zI J 243 (va_up (va_up (va_up f_t_now (((((15 : Int) * p0) + (3 : Int)) + ((2 : Int) * (f_t_now ((((15 : Int) * p0) + (2 : Int))).toNat)))).toNat p1) ((((((15 : Int) * p0) + (3 : Int)) + ((2 : Int) * (f_t_now ((((15 : Int) * p0) + (2 : Int))).toNat))) + (1 : Int))).toNat p2) ((((15 : Int) * p0) + (2 : Int))).toNat (((va_up (va_up f_t_now (((((15 : Int) * p0) + (3 : Int)) + ((2 : Int) * (f_t_now ((((15 : Int) * p0) + (2 : Int))).toNat)))).toNat p1) ((((((15 : Int) * p0) + (3 : Int)) + ((2 : Int) * (f_t_now ((((15 : Int) * p0) + (2 : Int))).toNat))) + (1 : Int))).toNat p2) ((((15 : Int) * p0) + (2 : Int))).toNat) + (1 : Int)))), (a_t_diary, zI J 3402 q66.2.2)] dX9_addSlice_140 rfl (by decide) g68 rfl rfl ?_
            refine z_aload_n (pc' := 142) 2 dX9_addSlice_141 rfl rfl rfl ?_
            refine z_getfield (pc' := 145) (C := RX9) (T := TX9) (N := 20) 0 3 dX9_addSlice_142 iX9_addSlice_X9 rfl rfl (by decide) mX9_addSlice_f16 rfl rfl ?_
            refine z_bipush (pc' := 147) dX9_addSlice_145 (by decide) rfl ?_
            refine z_iload_n (pc' := 148) 3 dX9_addSlice_147 rfl rfl rfl ?_
            refine z_imul (pc' := 149) dX9_addSlice_148 rfl ?_
            refine z_iconst (pc' := 150) dX9_addSlice_149 rfl ?_
            refine z_iadd (pc' := 151) dX9_addSlice_150 rfl ?_
            refine z_iaload (pc' := 152) 1 dX9_addSlice_151 rfl (by decide) g68 rfl ?_
            cases hsh
            exact z_iret rfl dX9_addSlice_152 ⟨rfl, rfl⟩
          · replace hsh := zif_f q hsh
            refine z_iconst (pc' := 81) dX9_addSlice_80 rfl ?_
            refine z_perm [(a_t, .inr (8, [.int (zi q63.2), .int (zi c_t_high), .int (zi c_t_wide), .ref a_t_now, .ref a_t_trial, .ref a_t_diary, .int (zi c_t_acts), .int (zi c_t_next), .ref a_t_kept, .ref a_t_isKept, .ref a_t_script, .int (zi c_t_scriptSize), .int (zi c_t_spot), .ref a_t_read, .int (zi c_t_readHigh), .int (zi c_t_readWide), .ref a_t_wanted, .ref a_t_level, .ref a_t_chosen, .ref a_t_best])), (a_t_now, zI J 243 f_t_now), (a_t_diary, zI J 3402 f_t_diary)] [(4, .int (zi (0 : Int))), (0, .ref a_t), (1, .int (zi p0)), (2, .int (zi p1)), (3, .int (zi p2))] [2, 0, 1] [0, 1, 2, 3, 4] rfl rfl rfl ?_
            cases hsh
            exact z_iret rfl dX9_addSlice_81 ⟨rfl, rfl⟩
      · replace hsh := zif_t q hsh
        refine z_iconst (pc' := 41) dX9_addSlice_40 rfl ?_
        refine z_goto (tgt := 74) dX9_addSlice_41 (by decide) ?_
        obtain ⟨q71, h72, hsh⟩ := zbind hsh
        refine z_callV (pc' := 77) (C := RX9) (As := [.int (zi (1 : Int))]) (rest := []) (wr := [(a_t_now, zI J 243 f_t_now), (a_t_diary, zI J 3402 f_t_diary)]) 1 (zc_X9_refused l D J F (a_t := a_t) (a_t_now := a_t_now) (a_t_trial := a_t_trial) (a_t_diary := a_t_diary) (a_t_kept := a_t_kept) (a_t_isKept := a_t_isKept) (a_t_script := a_t_script) (a_t_read := a_t_read) (a_t_wanted := a_t_wanted) (a_t_level := a_t_level) (a_t_chosen := a_t_chosen) (a_t_best := a_t_best) (c_t_refusal := c_t_refusal) (c_t_high := c_t_high) (c_t_wide := c_t_wide) (c_t_acts := c_t_acts) (c_t_next := c_t_next) (c_t_scriptSize := c_t_scriptSize) (c_t_spot := c_t_spot) (c_t_readHigh := c_t_readHigh) (c_t_readWide := c_t_readWide) (p0 := (1 : Int))  q71 h72) dX9_addSlice_74 gX9_addSlice_X9_refused rfl rfl rfl (by decide +kernel) ⟨Nat.le_of_ble_eq_true rfl, Nat.le_of_ble_eq_true rfl⟩ ⟨Nat.le_of_ble_eq_true rfl, Nat.le_of_ble_eq_true rfl⟩ (z_spl_of [2, 0, 1] rfl rfl) rfl rfl rfl rfl (Nat.le_of_ble_eq_true rfl) rfl (fun rv w9 hq => ?_)
        obtain ⟨rfl, rfl⟩ := hq
        refine z_ws [(a_t_now, zI J 243 f_t_now), (a_t_diary, zI J 3402 f_t_diary), (a_t, .inr (8, [.int (zi q71.2), .int (zi c_t_high), .int (zi c_t_wide), .ref a_t_now, .ref a_t_trial, .ref a_t_diary, .int (zi c_t_acts), .int (zi c_t_next), .ref a_t_kept, .ref a_t_isKept, .ref a_t_script, .int (zi c_t_scriptSize), .int (zi c_t_spot), .ref a_t_read, .int (zi c_t_readHigh), .int (zi c_t_readWide), .ref a_t_wanted, .ref a_t_level, .ref a_t_chosen, .ref a_t_best]))] rfl ?_
        have g73 := zkr_p hsh
        replace hsh := zkr_k hsh
        refine z_if_eq (pc' := 80) (tgt := 82) dX9_addSlice_77 (by decide) g73 rfl (fun q => ?_) (fun q => ?_)
        · replace hsh := zif_t q hsh
          refine z_aload_n (pc' := 83) 1 dX9_addSlice_82 rfl rfl rfl ?_
          obtain ⟨q74, h75, hsh⟩ := zbind hsh
          refine z_callV (pc' := 86) (C := RX9) (As := []) (rest := []) (wr := []) 0 (zc_X9_note l D J F (a_t := a_t) (a_t_now := a_t_now) (a_t_trial := a_t_trial) (a_t_diary := a_t_diary) (a_t_kept := a_t_kept) (a_t_isKept := a_t_isKept) (a_t_script := a_t_script) (a_t_read := a_t_read) (a_t_wanted := a_t_wanted) (a_t_level := a_t_level) (a_t_chosen := a_t_chosen) (a_t_best := a_t_best) (c_t_refusal := q71.2) (c_t_high := c_t_high) (c_t_wide := c_t_wide) (c_t_acts := c_t_acts) (c_t_next := c_t_next) (c_t_scriptSize := c_t_scriptSize) (c_t_spot := c_t_spot) (c_t_readHigh := c_t_readHigh) (c_t_readWide := c_t_readWide) (f_t_now := f_t_now) (f_t_diary := f_t_diary)  q74 h75) dX9_addSlice_83 gX9_addSlice_X9_note rfl rfl rfl (by decide +kernel) ⟨Nat.le_of_ble_eq_true rfl, Nat.le_of_ble_eq_true rfl⟩ ⟨Nat.le_of_ble_eq_true rfl, Nat.le_of_ble_eq_true rfl⟩ (z_spl_of [2, 0, 1] rfl rfl) rfl rfl rfl rfl (Nat.le_of_ble_eq_true rfl) rfl (fun rv w9 hq => ?_)
          obtain ⟨rfl, rfl⟩ := hq
          refine z_ws [(a_t, .inr (8, [.int (zi q71.2), .int (zi c_t_high), .int (zi c_t_wide), .ref a_t_now, .ref a_t_trial, .ref a_t_diary, .int (zi q74.1), .int (zi q74.2.1), .ref a_t_kept, .ref a_t_isKept, .ref a_t_script, .int (zi c_t_scriptSize), .int (zi c_t_spot), .ref a_t_read, .int (zi c_t_readHigh), .int (zi c_t_readWide), .ref a_t_wanted, .ref a_t_level, .ref a_t_chosen, .ref a_t_best])), (a_t_now, zI J 243 f_t_now), (a_t_diary, zI J 3402 q74.2.2)] rfl ?_
          refine z_bipush (pc' := 88) dX9_addSlice_86 (by decide) rfl ?_
          refine z_iload_n (pc' := 89) 2 dX9_addSlice_88 rfl rfl rfl ?_
          refine z_imul (pc' := 90) dX9_addSlice_89 rfl ?_
          refine z_iconst (pc' := 91) dX9_addSlice_90 rfl ?_
          refine z_iadd (pc' := 92) dX9_addSlice_91 rfl ?_
          refine z_iconst (pc' := 93) dX9_addSlice_92 rfl ?_
          refine z_aload_n (pc' := 94) 1 dX9_addSlice_93 rfl rfl rfl ?_
          refine z_getfield (pc' := 97) (C := RX9) (T := TX9) (N := 20) 0 3 dX9_addSlice_94 iX9_addSlice_X9 rfl rfl (by decide) mX9_addSlice_f16 rfl rfl ?_
          refine z_bipush (pc' := 99) dX9_addSlice_97 (by decide) rfl ?_
          refine z_iload_n (pc' := 100) 2 dX9_addSlice_99 rfl rfl rfl ?_
          refine z_imul (pc' := 101) dX9_addSlice_100 rfl ?_
          refine z_iconst (pc' := 102) dX9_addSlice_101 rfl ?_
          refine z_iadd (pc' := 103) dX9_addSlice_102 rfl ?_
          have g76 := zkx_p hsh
          replace hsh := zkx_k hsh
          refine z_iaload (pc' := 104) 1 dX9_addSlice_103 rfl (by decide) g76 rfl ?_
          refine z_imul (pc' := 105) dX9_addSlice_104 rfl ?_
          refine z_iadd (pc' := 106) dX9_addSlice_105 rfl ?_
          refine z_istore (pc' := 108) [(5, .int (zi ((((15 : Int) * p0) + (3 : Int)) + ((2 : Int) * (f_t_now ((((15 : Int) * p0) + (2 : Int))).toNat))))), (4, .int (zi (0 : Int))), (0, .ref a_t), (1, .int (zi p0)), (2, .int (zi p1)), (3, .int (zi p2))] dX9_addSlice_106 (by decide) rfl rfl ?_
          refine z_aload_n (pc' := 109) 2 dX9_addSlice_108 rfl rfl rfl ?_
          refine z_getfield (pc' := 112) (C := RX9) (T := TX9) (N := 20) 0 3 dX9_addSlice_109 iX9_addSlice_X9 rfl rfl (by decide) mX9_addSlice_f16 rfl rfl ?_
          refine z_iload (pc' := 114) 0 dX9_addSlice_112 rfl rfl ?_
          refine z_iload_n (pc' := 115) 4 dX9_addSlice_114 rfl rfl rfl ?_
          have g77 := zkx_p hsh
          replace hsh := zkx_k hsh
          refine z_iastore (pc' := 116) 1 [(a_t, .inr (8, [.int (zi q71.2), .int (zi c_t_high), .int (zi c_t_wide), .ref a_t_now, .ref a_t_trial, .ref a_t_diary, .int (zi q74.1), .int (zi q74.2.1), .ref a_t_kept, .ref a_t_isKept, .ref a_t_script, .int (zi c_t_scriptSize), .int (zi c_t_spot), .ref a_t_read, .int (zi c_t_readHigh), .int (zi c_t_readWide), .ref a_t_wanted, .ref a_t_level, .ref a_t_chosen, .ref a_t_best])), (a_t_now, zI J 243 (va_up f_t_now (((((15 : Int) * p0) + (3 : Int)) + ((2 : Int) * (f_t_now ((((15 : Int) * p0) + (2 : Int))).toNat)))).toNat p1)), (a_t_diary, zI J 3402 q74.2.2)] dX9_addSlice_115 rfl (by decide) g77 rfl rfl ?_
          refine z_aload_n (pc' := 117) 2 dX9_addSlice_116 rfl rfl rfl ?_
          refine z_getfield (pc' := 120) (C := RX9) (T := TX9) (N := 20) 0 3 dX9_addSlice_117 iX9_addSlice_X9 rfl rfl (by decide) mX9_addSlice_f16 rfl rfl ?_
          refine z_iload (pc' := 122) 0 dX9_addSlice_120 rfl rfl ?_
          refine z_iconst (pc' := 123) dX9_addSlice_122 rfl ?_
          refine z_iadd (pc' := 124) dX9_addSlice_123 rfl ?_
          refine z_iload_n (pc' := 125) 5 dX9_addSlice_124 rfl rfl rfl ?_
          have g78 := zkx_p hsh
          replace hsh := zkx_k hsh
          refine z_iastore (pc' := 126) 1 [(a_t, .inr (8, [.int (zi q71.2), .int (zi c_t_high), .int (zi c_t_wide), .ref a_t_now, .ref a_t_trial, .ref a_t_diary, .int (zi q74.1), .int (zi q74.2.1), .ref a_t_kept, .ref a_t_isKept, .ref a_t_script, .int (zi c_t_scriptSize), .int (zi c_t_spot), .ref a_t_read, .int (zi c_t_readHigh), .int (zi c_t_readWide), .ref a_t_wanted, .ref a_t_level, .ref a_t_chosen, .ref a_t_best])), (a_t_now, zI J 243 (va_up (va_up f_t_now (((((15 : Int) * p0) + (3 : Int)) + ((2 : Int) * (f_t_now ((((15 : Int) * p0) + (2 : Int))).toNat)))).toNat p1) ((((((15 : Int) * p0) + (3 : Int)) + ((2 : Int) * (f_t_now ((((15 : Int) * p0) + (2 : Int))).toNat))) + (1 : Int))).toNat p2)), (a_t_diary, zI J 3402 q74.2.2)] dX9_addSlice_125 rfl (by decide) g78 rfl rfl ?_
          refine z_aload_n (pc' := 127) 2 dX9_addSlice_126 rfl rfl rfl ?_
          refine z_getfield (pc' := 130) (C := RX9) (T := TX9) (N := 20) 0 3 dX9_addSlice_127 iX9_addSlice_X9 rfl rfl (by decide) mX9_addSlice_f16 rfl rfl ?_
          refine z_bipush (pc' := 132) dX9_addSlice_130 (by decide) rfl ?_
          refine z_iload_n (pc' := 133) 3 dX9_addSlice_132 rfl rfl rfl ?_
          refine z_imul (pc' := 134) dX9_addSlice_133 rfl ?_
          refine z_iconst (pc' := 135) dX9_addSlice_134 rfl ?_
          refine z_iadd (pc' := 136) dX9_addSlice_135 rfl ?_
          refine z_dup2 (pc' := 137) dX9_addSlice_136 rfl rfl rfl ?_
          refine z_iaload (pc' := 138) 1 dX9_addSlice_137 rfl (by decide) g76 rfl ?_
          refine z_iconst (pc' := 139) dX9_addSlice_138 rfl ?_
          refine z_iadd (pc' := 140) dX9_addSlice_139 rfl ?_
          refine z_iastore (pc' := 141) 1 [(a_t, .inr (8, [.int (zi q71.2), .int (zi c_t_high), .int (zi c_t_wide), .ref a_t_now, .ref a_t_trial, .ref a_t_diary, .int (zi q74.1), .int (zi q74.2.1), .ref a_t_kept, .ref a_t_isKept, .ref a_t_script, .int (zi c_t_scriptSize), .int (zi c_t_spot), .ref a_t_read, .int (zi c_t_readHigh), .int (zi c_t_readWide), .ref a_t_wanted, .ref a_t_level, .ref a_t_chosen, .ref a_t_best])), (a_t_now, zI J 243 (va_up (va_up (va_up f_t_now (((((15 : Int) * p0) + (3 : Int)) + ((2 : Int) * (f_t_now ((((15 : Int) * p0) + (2 : Int))).toNat)))).toNat p1) ((((((15 : Int) * p0) + (3 : Int)) + ((2 : Int) * (f_t_now ((((15 : Int) * p0) + (2 : Int))).toNat))) + (1 : Int))).toNat p2) ((((15 : Int) * p0) + (2 : Int))).toNat (((va_up (va_up f_t_now (((((15 : Int) * p0) + (3 : Int)) + ((2 : Int) * (f_t_now ((((15 : Int) * p0) + (2 : Int))).toNat)))).toNat p1) ((((((15 : Int) * p0) + (3 : Int)) + ((2 : Int) * (f_t_now ((((15 : Int) * p0) + (2 : Int))).toNat))) + (1 : Int))).toNat p2) ((((15 : Int) * p0) + (2 : Int))).toNat) + (1 : Int)))), (a_t_diary, zI J 3402 q74.2.2)] dX9_addSlice_140 rfl (by decide) g76 rfl rfl ?_
          refine z_aload_n (pc' := 142) 2 dX9_addSlice_141 rfl rfl rfl ?_
          refine z_getfield (pc' := 145) (C := RX9) (T := TX9) (N := 20) 0 3 dX9_addSlice_142 iX9_addSlice_X9 rfl rfl (by decide) mX9_addSlice_f16 rfl rfl ?_
          refine z_bipush (pc' := 147) dX9_addSlice_145 (by decide) rfl ?_
          refine z_iload_n (pc' := 148) 3 dX9_addSlice_147 rfl rfl rfl ?_
          refine z_imul (pc' := 149) dX9_addSlice_148 rfl ?_
          refine z_iconst (pc' := 150) dX9_addSlice_149 rfl ?_
          refine z_iadd (pc' := 151) dX9_addSlice_150 rfl ?_
          refine z_iaload (pc' := 152) 1 dX9_addSlice_151 rfl (by decide) g76 rfl ?_
          cases hsh
          exact z_iret rfl dX9_addSlice_152 ⟨rfl, rfl⟩
        · replace hsh := zif_f q hsh
          refine z_iconst (pc' := 81) dX9_addSlice_80 rfl ?_
          refine z_perm [(a_t, .inr (8, [.int (zi q71.2), .int (zi c_t_high), .int (zi c_t_wide), .ref a_t_now, .ref a_t_trial, .ref a_t_diary, .int (zi c_t_acts), .int (zi c_t_next), .ref a_t_kept, .ref a_t_isKept, .ref a_t_script, .int (zi c_t_scriptSize), .int (zi c_t_spot), .ref a_t_read, .int (zi c_t_readHigh), .int (zi c_t_readWide), .ref a_t_wanted, .ref a_t_level, .ref a_t_chosen, .ref a_t_best])), (a_t_now, zI J 243 f_t_now), (a_t_diary, zI J 3402 f_t_diary)] [(4, .int (zi (0 : Int))), (0, .ref a_t), (1, .int (zi p0)), (2, .int (zi p1)), (3, .int (zi p2))] [2, 0, 1] [0, 1, 2, 3, 4] rfl rfl rfl ?_
          cases hsh
          exact z_iret rfl dX9_addSlice_81 ⟨rfl, rfl⟩
    · replace hsh := zif_f q hsh
      refine z_iconst (pc' := 25) dX9_addSlice_24 rfl ?_
      refine z_goto (tgt := 29) dX9_addSlice_25 (by decide) ?_
      refine z_istore (pc' := 31) [(4, .int (zi (1 : Int))), (0, .ref a_t), (1, .int (zi p0)), (2, .int (zi p1)), (3, .int (zi p2))] dX9_addSlice_29 (by decide) rfl rfl ?_
      refine z_aload_n (pc' := 32) 1 dX9_addSlice_31 rfl rfl rfl ?_
      refine z_aload_n (pc' := 33) 1 dX9_addSlice_32 rfl rfl rfl ?_
      refine z_iload_n (pc' := 34) 2 dX9_addSlice_33 rfl rfl rfl ?_
      obtain ⟨q79, h80, hsh⟩ := zbind hsh
      refine z_callV (pc' := 37) (C := RX9) (As := [.int (zi p0)]) (rest := [.ref a_t]) (wr := [(a_t_now, zI J 243 f_t_now), (a_t_diary, zI J 3402 f_t_diary)]) 1 (zc_X9_isPoint l D J F (a_t := a_t) (a_t_now := a_t_now) (a_t_trial := a_t_trial) (a_t_diary := a_t_diary) (a_t_kept := a_t_kept) (a_t_isKept := a_t_isKept) (a_t_script := a_t_script) (a_t_read := a_t_read) (a_t_wanted := a_t_wanted) (a_t_level := a_t_level) (a_t_chosen := a_t_chosen) (a_t_best := a_t_best) (c_t_refusal := c_t_refusal) (c_t_high := c_t_high) (c_t_wide := c_t_wide) (c_t_acts := c_t_acts) (c_t_next := c_t_next) (c_t_scriptSize := c_t_scriptSize) (c_t_spot := c_t_spot) (c_t_readHigh := c_t_readHigh) (c_t_readWide := c_t_readWide) (p0 := p0)  q79 h80) dX9_addSlice_34 gX9_addSlice_X9_isPoint rfl rfl rfl (by decide +kernel) ⟨Nat.le_of_ble_eq_true rfl, Nat.le_of_ble_eq_true rfl⟩ ⟨Nat.le_of_ble_eq_true rfl, Nat.le_of_ble_eq_true rfl⟩ (z_spl_of [0, 1, 2] rfl rfl) rfl rfl rfl rfl (Nat.le_of_ble_eq_true rfl) rfl (fun rv w9 hq => ?_)
      obtain ⟨rfl, rfl⟩ := hq
      refine z_ws [(a_t_now, zI J 243 f_t_now), (a_t_diary, zI J 3402 f_t_diary), (a_t, .inr (8, [.int (zi c_t_refusal), .int (zi c_t_high), .int (zi c_t_wide), .ref a_t_now, .ref a_t_trial, .ref a_t_diary, .int (zi c_t_acts), .int (zi c_t_next), .ref a_t_kept, .ref a_t_isKept, .ref a_t_script, .int (zi c_t_scriptSize), .int (zi c_t_spot), .ref a_t_read, .int (zi c_t_readHigh), .int (zi c_t_readWide), .ref a_t_wanted, .ref a_t_level, .ref a_t_chosen, .ref a_t_best]))] rfl ?_
      have g81 := zkr_p hsh
      replace hsh := zkr_k hsh
      refine z_if_ne (pc' := 40) (tgt := 44) dX9_addSlice_37 (by decide) g81 rfl (fun q => ?_) (fun q => ?_)
      · replace hsh := zif_f q hsh
        refine z_iload (pc' := 46) 0 dX9_addSlice_44 rfl rfl ?_
        refine z_if_ne (pc' := 49) (tgt := 53) dX9_addSlice_46 (by decide) (by decide) rfl (fun q => ?_) (fun q => ?_)
        · replace hsh := zif_f q hsh
          refine z_aload_n (pc' := 54) 1 dX9_addSlice_53 rfl rfl rfl ?_
          refine z_getfield (pc' := 57) (C := RX9) (T := TX9) (N := 20) 2 3 dX9_addSlice_54 iX9_addSlice_X9 rfl rfl (by decide) mX9_addSlice_f16 rfl rfl ?_
          refine z_bipush (pc' := 59) dX9_addSlice_57 (by decide) rfl ?_
          refine z_iload_n (pc' := 60) 2 dX9_addSlice_59 rfl rfl rfl ?_
          refine z_imul (pc' := 61) dX9_addSlice_60 rfl ?_
          refine z_iconst (pc' := 62) dX9_addSlice_61 rfl ?_
          refine z_iadd (pc' := 63) dX9_addSlice_62 rfl ?_
          have g82 := zkx_p hsh
          replace hsh := zkx_k hsh
          refine z_iaload (pc' := 64) 0 dX9_addSlice_63 rfl (by decide) g82 rfl ?_
          refine z_bipush (pc' := 66) dX9_addSlice_64 (by decide) rfl ?_
          have g83 := zkr_p hsh
          replace hsh := zkr_k hsh
          refine z_icmp_ne (pc' := 69) (tgt := 73) dX9_addSlice_66 (by decide) g83 (by decide) rfl (fun q => ?_) (fun q => ?_)
          · replace hsh := zif_f q hsh
            refine z_iconst (pc' := 74) dX9_addSlice_73 rfl ?_
            obtain ⟨q84, h85, hsh⟩ := zbind hsh
            refine z_callV (pc' := 77) (C := RX9) (As := [.int (zi (0 : Int))]) (rest := []) (wr := [(a_t_now, zI J 243 f_t_now), (a_t_diary, zI J 3402 f_t_diary)]) 1 (zc_X9_refused l D J F (a_t := a_t) (a_t_now := a_t_now) (a_t_trial := a_t_trial) (a_t_diary := a_t_diary) (a_t_kept := a_t_kept) (a_t_isKept := a_t_isKept) (a_t_script := a_t_script) (a_t_read := a_t_read) (a_t_wanted := a_t_wanted) (a_t_level := a_t_level) (a_t_chosen := a_t_chosen) (a_t_best := a_t_best) (c_t_refusal := c_t_refusal) (c_t_high := c_t_high) (c_t_wide := c_t_wide) (c_t_acts := c_t_acts) (c_t_next := c_t_next) (c_t_scriptSize := c_t_scriptSize) (c_t_spot := c_t_spot) (c_t_readHigh := c_t_readHigh) (c_t_readWide := c_t_readWide) (p0 := (0 : Int))  q84 h85) dX9_addSlice_74 gX9_addSlice_X9_refused rfl rfl rfl (by decide +kernel) ⟨Nat.le_of_ble_eq_true rfl, Nat.le_of_ble_eq_true rfl⟩ ⟨Nat.le_of_ble_eq_true rfl, Nat.le_of_ble_eq_true rfl⟩ (z_spl_of [2, 0, 1] rfl rfl) rfl rfl rfl rfl (Nat.le_of_ble_eq_true rfl) rfl (fun rv w9 hq => ?_)
            obtain ⟨rfl, rfl⟩ := hq
            refine z_ws [(a_t_now, zI J 243 f_t_now), (a_t_diary, zI J 3402 f_t_diary), (a_t, .inr (8, [.int (zi q84.2), .int (zi c_t_high), .int (zi c_t_wide), .ref a_t_now, .ref a_t_trial, .ref a_t_diary, .int (zi c_t_acts), .int (zi c_t_next), .ref a_t_kept, .ref a_t_isKept, .ref a_t_script, .int (zi c_t_scriptSize), .int (zi c_t_spot), .ref a_t_read, .int (zi c_t_readHigh), .int (zi c_t_readWide), .ref a_t_wanted, .ref a_t_level, .ref a_t_chosen, .ref a_t_best]))] rfl ?_
            have g86 := zkr_p hsh
            replace hsh := zkr_k hsh
            refine z_if_eq (pc' := 80) (tgt := 82) dX9_addSlice_77 (by decide) g86 rfl (fun q => ?_) (fun q => ?_)
            · replace hsh := zif_t q hsh
              refine z_aload_n (pc' := 83) 1 dX9_addSlice_82 rfl rfl rfl ?_
              obtain ⟨q87, h88, hsh⟩ := zbind hsh
              refine z_callV (pc' := 86) (C := RX9) (As := []) (rest := []) (wr := []) 0 (zc_X9_note l D J F (a_t := a_t) (a_t_now := a_t_now) (a_t_trial := a_t_trial) (a_t_diary := a_t_diary) (a_t_kept := a_t_kept) (a_t_isKept := a_t_isKept) (a_t_script := a_t_script) (a_t_read := a_t_read) (a_t_wanted := a_t_wanted) (a_t_level := a_t_level) (a_t_chosen := a_t_chosen) (a_t_best := a_t_best) (c_t_refusal := q84.2) (c_t_high := c_t_high) (c_t_wide := c_t_wide) (c_t_acts := c_t_acts) (c_t_next := c_t_next) (c_t_scriptSize := c_t_scriptSize) (c_t_spot := c_t_spot) (c_t_readHigh := c_t_readHigh) (c_t_readWide := c_t_readWide) (f_t_now := f_t_now) (f_t_diary := f_t_diary)  q87 h88) dX9_addSlice_83 gX9_addSlice_X9_note rfl rfl rfl (by decide +kernel) ⟨Nat.le_of_ble_eq_true rfl, Nat.le_of_ble_eq_true rfl⟩ ⟨Nat.le_of_ble_eq_true rfl, Nat.le_of_ble_eq_true rfl⟩ (z_spl_of [2, 0, 1] rfl rfl) rfl rfl rfl rfl (Nat.le_of_ble_eq_true rfl) rfl (fun rv w9 hq => ?_)
              obtain ⟨rfl, rfl⟩ := hq
              refine z_ws [(a_t, .inr (8, [.int (zi q84.2), .int (zi c_t_high), .int (zi c_t_wide), .ref a_t_now, .ref a_t_trial, .ref a_t_diary, .int (zi q87.1), .int (zi q87.2.1), .ref a_t_kept, .ref a_t_isKept, .ref a_t_script, .int (zi c_t_scriptSize), .int (zi c_t_spot), .ref a_t_read, .int (zi c_t_readHigh), .int (zi c_t_readWide), .ref a_t_wanted, .ref a_t_level, .ref a_t_chosen, .ref a_t_best])), (a_t_now, zI J 243 f_t_now), (a_t_diary, zI J 3402 q87.2.2)] rfl ?_
              refine z_bipush (pc' := 88) dX9_addSlice_86 (by decide) rfl ?_
              refine z_iload_n (pc' := 89) 2 dX9_addSlice_88 rfl rfl rfl ?_
              refine z_imul (pc' := 90) dX9_addSlice_89 rfl ?_
              refine z_iconst (pc' := 91) dX9_addSlice_90 rfl ?_
              refine z_iadd (pc' := 92) dX9_addSlice_91 rfl ?_
              refine z_iconst (pc' := 93) dX9_addSlice_92 rfl ?_
              refine z_aload_n (pc' := 94) 1 dX9_addSlice_93 rfl rfl rfl ?_
              refine z_getfield (pc' := 97) (C := RX9) (T := TX9) (N := 20) 0 3 dX9_addSlice_94 iX9_addSlice_X9 rfl rfl (by decide) mX9_addSlice_f16 rfl rfl ?_
              refine z_bipush (pc' := 99) dX9_addSlice_97 (by decide) rfl ?_
              refine z_iload_n (pc' := 100) 2 dX9_addSlice_99 rfl rfl rfl ?_
              refine z_imul (pc' := 101) dX9_addSlice_100 rfl ?_
              refine z_iconst (pc' := 102) dX9_addSlice_101 rfl ?_
              refine z_iadd (pc' := 103) dX9_addSlice_102 rfl ?_
              refine z_iaload (pc' := 104) 1 dX9_addSlice_103 rfl (by decide) g82 rfl ?_
              refine z_imul (pc' := 105) dX9_addSlice_104 rfl ?_
              refine z_iadd (pc' := 106) dX9_addSlice_105 rfl ?_
              refine z_istore (pc' := 108) [(5, .int (zi ((((15 : Int) * p0) + (3 : Int)) + ((2 : Int) * (f_t_now ((((15 : Int) * p0) + (2 : Int))).toNat))))), (4, .int (zi (1 : Int))), (0, .ref a_t), (1, .int (zi p0)), (2, .int (zi p1)), (3, .int (zi p2))] dX9_addSlice_106 (by decide) rfl rfl ?_
              refine z_aload_n (pc' := 109) 2 dX9_addSlice_108 rfl rfl rfl ?_
              refine z_getfield (pc' := 112) (C := RX9) (T := TX9) (N := 20) 0 3 dX9_addSlice_109 iX9_addSlice_X9 rfl rfl (by decide) mX9_addSlice_f16 rfl rfl ?_
              refine z_iload (pc' := 114) 0 dX9_addSlice_112 rfl rfl ?_
              refine z_iload_n (pc' := 115) 4 dX9_addSlice_114 rfl rfl rfl ?_
              have g89 := zkx_p hsh
              replace hsh := zkx_k hsh
              refine z_iastore (pc' := 116) 1 [(a_t, .inr (8, [.int (zi q84.2), .int (zi c_t_high), .int (zi c_t_wide), .ref a_t_now, .ref a_t_trial, .ref a_t_diary, .int (zi q87.1), .int (zi q87.2.1), .ref a_t_kept, .ref a_t_isKept, .ref a_t_script, .int (zi c_t_scriptSize), .int (zi c_t_spot), .ref a_t_read, .int (zi c_t_readHigh), .int (zi c_t_readWide), .ref a_t_wanted, .ref a_t_level, .ref a_t_chosen, .ref a_t_best])), (a_t_now, zI J 243 (va_up f_t_now (((((15 : Int) * p0) + (3 : Int)) + ((2 : Int) * (f_t_now ((((15 : Int) * p0) + (2 : Int))).toNat)))).toNat p1)), (a_t_diary, zI J 3402 q87.2.2)] dX9_addSlice_115 rfl (by decide) g89 rfl rfl ?_
              refine z_aload_n (pc' := 117) 2 dX9_addSlice_116 rfl rfl rfl ?_
              refine z_getfield (pc' := 120) (C := RX9) (T := TX9) (N := 20) 0 3 dX9_addSlice_117 iX9_addSlice_X9 rfl rfl (by decide) mX9_addSlice_f16 rfl rfl ?_
              refine z_iload (pc' := 122) 0 dX9_addSlice_120 rfl rfl ?_
              refine z_iconst (pc' := 123) dX9_addSlice_122 rfl ?_
              refine z_iadd (pc' := 124) dX9_addSlice_123 rfl ?_
              refine z_iload_n (pc' := 125) 5 dX9_addSlice_124 rfl rfl rfl ?_
              have g90 := zkx_p hsh
              replace hsh := zkx_k hsh
              refine z_iastore (pc' := 126) 1 [(a_t, .inr (8, [.int (zi q84.2), .int (zi c_t_high), .int (zi c_t_wide), .ref a_t_now, .ref a_t_trial, .ref a_t_diary, .int (zi q87.1), .int (zi q87.2.1), .ref a_t_kept, .ref a_t_isKept, .ref a_t_script, .int (zi c_t_scriptSize), .int (zi c_t_spot), .ref a_t_read, .int (zi c_t_readHigh), .int (zi c_t_readWide), .ref a_t_wanted, .ref a_t_level, .ref a_t_chosen, .ref a_t_best])), (a_t_now, zI J 243 (va_up (va_up f_t_now (((((15 : Int) * p0) + (3 : Int)) + ((2 : Int) * (f_t_now ((((15 : Int) * p0) + (2 : Int))).toNat)))).toNat p1) ((((((15 : Int) * p0) + (3 : Int)) + ((2 : Int) * (f_t_now ((((15 : Int) * p0) + (2 : Int))).toNat))) + (1 : Int))).toNat p2)), (a_t_diary, zI J 3402 q87.2.2)] dX9_addSlice_125 rfl (by decide) g90 rfl rfl ?_
              refine z_aload_n (pc' := 127) 2 dX9_addSlice_126 rfl rfl rfl ?_
              refine z_getfield (pc' := 130) (C := RX9) (T := TX9) (N := 20) 0 3 dX9_addSlice_127 iX9_addSlice_X9 rfl rfl (by decide) mX9_addSlice_f16 rfl rfl ?_
              refine z_bipush (pc' := 132) dX9_addSlice_130 (by decide) rfl ?_
              refine z_iload_n (pc' := 133) 3 dX9_addSlice_132 rfl rfl rfl ?_
              refine z_imul (pc' := 134) dX9_addSlice_133 rfl ?_
              refine z_iconst (pc' := 135) dX9_addSlice_134 rfl ?_
              refine z_iadd (pc' := 136) dX9_addSlice_135 rfl ?_
              refine z_dup2 (pc' := 137) dX9_addSlice_136 rfl rfl rfl ?_
              refine z_iaload (pc' := 138) 1 dX9_addSlice_137 rfl (by decide) g82 rfl ?_
              refine z_iconst (pc' := 139) dX9_addSlice_138 rfl ?_
              refine z_iadd (pc' := 140) dX9_addSlice_139 rfl ?_
              refine z_iastore (pc' := 141) 1 [(a_t, .inr (8, [.int (zi q84.2), .int (zi c_t_high), .int (zi c_t_wide), .ref a_t_now, .ref a_t_trial, .ref a_t_diary, .int (zi q87.1), .int (zi q87.2.1), .ref a_t_kept, .ref a_t_isKept, .ref a_t_script, .int (zi c_t_scriptSize), .int (zi c_t_spot), .ref a_t_read, .int (zi c_t_readHigh), .int (zi c_t_readWide), .ref a_t_wanted, .ref a_t_level, .ref a_t_chosen, .ref a_t_best])), (a_t_now, zI J 243 (va_up (va_up (va_up f_t_now (((((15 : Int) * p0) + (3 : Int)) + ((2 : Int) * (f_t_now ((((15 : Int) * p0) + (2 : Int))).toNat)))).toNat p1) ((((((15 : Int) * p0) + (3 : Int)) + ((2 : Int) * (f_t_now ((((15 : Int) * p0) + (2 : Int))).toNat))) + (1 : Int))).toNat p2) ((((15 : Int) * p0) + (2 : Int))).toNat (((va_up (va_up f_t_now (((((15 : Int) * p0) + (3 : Int)) + ((2 : Int) * (f_t_now ((((15 : Int) * p0) + (2 : Int))).toNat)))).toNat p1) ((((((15 : Int) * p0) + (3 : Int)) + ((2 : Int) * (f_t_now ((((15 : Int) * p0) + (2 : Int))).toNat))) + (1 : Int))).toNat p2) ((((15 : Int) * p0) + (2 : Int))).toNat) + (1 : Int)))), (a_t_diary, zI J 3402 q87.2.2)] dX9_addSlice_140 rfl (by decide) g82 rfl rfl ?_
              refine z_aload_n (pc' := 142) 2 dX9_addSlice_141 rfl rfl rfl ?_
              refine z_getfield (pc' := 145) (C := RX9) (T := TX9) (N := 20) 0 3 dX9_addSlice_142 iX9_addSlice_X9 rfl rfl (by decide) mX9_addSlice_f16 rfl rfl ?_
              refine z_bipush (pc' := 147) dX9_addSlice_145 (by decide) rfl ?_
              refine z_iload_n (pc' := 148) 3 dX9_addSlice_147 rfl rfl rfl ?_
              refine z_imul (pc' := 149) dX9_addSlice_148 rfl ?_
              refine z_iconst (pc' := 150) dX9_addSlice_149 rfl ?_
              refine z_iadd (pc' := 151) dX9_addSlice_150 rfl ?_
              refine z_iaload (pc' := 152) 1 dX9_addSlice_151 rfl (by decide) g82 rfl ?_
              cases hsh
              exact z_iret rfl dX9_addSlice_152 ⟨rfl, rfl⟩
            · replace hsh := zif_f q hsh
              refine z_iconst (pc' := 81) dX9_addSlice_80 rfl ?_
              refine z_perm [(a_t, .inr (8, [.int (zi q84.2), .int (zi c_t_high), .int (zi c_t_wide), .ref a_t_now, .ref a_t_trial, .ref a_t_diary, .int (zi c_t_acts), .int (zi c_t_next), .ref a_t_kept, .ref a_t_isKept, .ref a_t_script, .int (zi c_t_scriptSize), .int (zi c_t_spot), .ref a_t_read, .int (zi c_t_readHigh), .int (zi c_t_readWide), .ref a_t_wanted, .ref a_t_level, .ref a_t_chosen, .ref a_t_best])), (a_t_now, zI J 243 f_t_now), (a_t_diary, zI J 3402 f_t_diary)] [(4, .int (zi (1 : Int))), (0, .ref a_t), (1, .int (zi p0)), (2, .int (zi p1)), (3, .int (zi p2))] [2, 0, 1] [0, 1, 2, 3, 4] rfl rfl rfl ?_
              cases hsh
              exact z_iret rfl dX9_addSlice_81 ⟨rfl, rfl⟩
          · replace hsh := zif_t q hsh
            refine z_iconst (pc' := 70) dX9_addSlice_69 rfl ?_
            refine z_goto (tgt := 74) dX9_addSlice_70 (by decide) ?_
            obtain ⟨q91, h92, hsh⟩ := zbind hsh
            refine z_callV (pc' := 77) (C := RX9) (As := [.int (zi (3 : Int))]) (rest := []) (wr := [(a_t_now, zI J 243 f_t_now), (a_t_diary, zI J 3402 f_t_diary)]) 1 (zc_X9_refused l D J F (a_t := a_t) (a_t_now := a_t_now) (a_t_trial := a_t_trial) (a_t_diary := a_t_diary) (a_t_kept := a_t_kept) (a_t_isKept := a_t_isKept) (a_t_script := a_t_script) (a_t_read := a_t_read) (a_t_wanted := a_t_wanted) (a_t_level := a_t_level) (a_t_chosen := a_t_chosen) (a_t_best := a_t_best) (c_t_refusal := c_t_refusal) (c_t_high := c_t_high) (c_t_wide := c_t_wide) (c_t_acts := c_t_acts) (c_t_next := c_t_next) (c_t_scriptSize := c_t_scriptSize) (c_t_spot := c_t_spot) (c_t_readHigh := c_t_readHigh) (c_t_readWide := c_t_readWide) (p0 := (3 : Int))  q91 h92) dX9_addSlice_74 gX9_addSlice_X9_refused rfl rfl rfl (by decide +kernel) ⟨Nat.le_of_ble_eq_true rfl, Nat.le_of_ble_eq_true rfl⟩ ⟨Nat.le_of_ble_eq_true rfl, Nat.le_of_ble_eq_true rfl⟩ (z_spl_of [2, 0, 1] rfl rfl) rfl rfl rfl rfl (Nat.le_of_ble_eq_true rfl) rfl (fun rv w9 hq => ?_)
            obtain ⟨rfl, rfl⟩ := hq
            refine z_ws [(a_t_now, zI J 243 f_t_now), (a_t_diary, zI J 3402 f_t_diary), (a_t, .inr (8, [.int (zi q91.2), .int (zi c_t_high), .int (zi c_t_wide), .ref a_t_now, .ref a_t_trial, .ref a_t_diary, .int (zi c_t_acts), .int (zi c_t_next), .ref a_t_kept, .ref a_t_isKept, .ref a_t_script, .int (zi c_t_scriptSize), .int (zi c_t_spot), .ref a_t_read, .int (zi c_t_readHigh), .int (zi c_t_readWide), .ref a_t_wanted, .ref a_t_level, .ref a_t_chosen, .ref a_t_best]))] rfl ?_
            have g93 := zkr_p hsh
            replace hsh := zkr_k hsh
            refine z_if_eq (pc' := 80) (tgt := 82) dX9_addSlice_77 (by decide) g93 rfl (fun q => ?_) (fun q => ?_)
            · replace hsh := zif_t q hsh
              refine z_aload_n (pc' := 83) 1 dX9_addSlice_82 rfl rfl rfl ?_
              obtain ⟨q94, h95, hsh⟩ := zbind hsh
              refine z_callV (pc' := 86) (C := RX9) (As := []) (rest := []) (wr := []) 0 (zc_X9_note l D J F (a_t := a_t) (a_t_now := a_t_now) (a_t_trial := a_t_trial) (a_t_diary := a_t_diary) (a_t_kept := a_t_kept) (a_t_isKept := a_t_isKept) (a_t_script := a_t_script) (a_t_read := a_t_read) (a_t_wanted := a_t_wanted) (a_t_level := a_t_level) (a_t_chosen := a_t_chosen) (a_t_best := a_t_best) (c_t_refusal := q91.2) (c_t_high := c_t_high) (c_t_wide := c_t_wide) (c_t_acts := c_t_acts) (c_t_next := c_t_next) (c_t_scriptSize := c_t_scriptSize) (c_t_spot := c_t_spot) (c_t_readHigh := c_t_readHigh) (c_t_readWide := c_t_readWide) (f_t_now := f_t_now) (f_t_diary := f_t_diary)  q94 h95) dX9_addSlice_83 gX9_addSlice_X9_note rfl rfl rfl (by decide +kernel) ⟨Nat.le_of_ble_eq_true rfl, Nat.le_of_ble_eq_true rfl⟩ ⟨Nat.le_of_ble_eq_true rfl, Nat.le_of_ble_eq_true rfl⟩ (z_spl_of [2, 0, 1] rfl rfl) rfl rfl rfl rfl (Nat.le_of_ble_eq_true rfl) rfl (fun rv w9 hq => ?_)
              obtain ⟨rfl, rfl⟩ := hq
              refine z_ws [(a_t, .inr (8, [.int (zi q91.2), .int (zi c_t_high), .int (zi c_t_wide), .ref a_t_now, .ref a_t_trial, .ref a_t_diary, .int (zi q94.1), .int (zi q94.2.1), .ref a_t_kept, .ref a_t_isKept, .ref a_t_script, .int (zi c_t_scriptSize), .int (zi c_t_spot), .ref a_t_read, .int (zi c_t_readHigh), .int (zi c_t_readWide), .ref a_t_wanted, .ref a_t_level, .ref a_t_chosen, .ref a_t_best])), (a_t_now, zI J 243 f_t_now), (a_t_diary, zI J 3402 q94.2.2)] rfl ?_
              refine z_bipush (pc' := 88) dX9_addSlice_86 (by decide) rfl ?_
              refine z_iload_n (pc' := 89) 2 dX9_addSlice_88 rfl rfl rfl ?_
              refine z_imul (pc' := 90) dX9_addSlice_89 rfl ?_
              refine z_iconst (pc' := 91) dX9_addSlice_90 rfl ?_
              refine z_iadd (pc' := 92) dX9_addSlice_91 rfl ?_
              refine z_iconst (pc' := 93) dX9_addSlice_92 rfl ?_
              refine z_aload_n (pc' := 94) 1 dX9_addSlice_93 rfl rfl rfl ?_
              refine z_getfield (pc' := 97) (C := RX9) (T := TX9) (N := 20) 0 3 dX9_addSlice_94 iX9_addSlice_X9 rfl rfl (by decide) mX9_addSlice_f16 rfl rfl ?_
              refine z_bipush (pc' := 99) dX9_addSlice_97 (by decide) rfl ?_
              refine z_iload_n (pc' := 100) 2 dX9_addSlice_99 rfl rfl rfl ?_
              refine z_imul (pc' := 101) dX9_addSlice_100 rfl ?_
              refine z_iconst (pc' := 102) dX9_addSlice_101 rfl ?_
              refine z_iadd (pc' := 103) dX9_addSlice_102 rfl ?_
              refine z_iaload (pc' := 104) 1 dX9_addSlice_103 rfl (by decide) g82 rfl ?_
              refine z_imul (pc' := 105) dX9_addSlice_104 rfl ?_
              refine z_iadd (pc' := 106) dX9_addSlice_105 rfl ?_
              refine z_istore (pc' := 108) [(5, .int (zi ((((15 : Int) * p0) + (3 : Int)) + ((2 : Int) * (f_t_now ((((15 : Int) * p0) + (2 : Int))).toNat))))), (4, .int (zi (1 : Int))), (0, .ref a_t), (1, .int (zi p0)), (2, .int (zi p1)), (3, .int (zi p2))] dX9_addSlice_106 (by decide) rfl rfl ?_
              refine z_aload_n (pc' := 109) 2 dX9_addSlice_108 rfl rfl rfl ?_
              refine z_getfield (pc' := 112) (C := RX9) (T := TX9) (N := 20) 0 3 dX9_addSlice_109 iX9_addSlice_X9 rfl rfl (by decide) mX9_addSlice_f16 rfl rfl ?_
              refine z_iload (pc' := 114) 0 dX9_addSlice_112 rfl rfl ?_
              refine z_iload_n (pc' := 115) 4 dX9_addSlice_114 rfl rfl rfl ?_
              have g96 := zkx_p hsh
              replace hsh := zkx_k hsh
              refine z_iastore (pc' := 116) 1 [(a_t, .inr (8, [.int (zi q91.2), .int (zi c_t_high), .int (zi c_t_wide), .ref a_t_now, .ref a_t_trial, .ref a_t_diary, .int (zi q94.1), .int (zi q94.2.1), .ref a_t_kept, .ref a_t_isKept, .ref a_t_script, .int (zi c_t_scriptSize), .int (zi c_t_spot), .ref a_t_read, .int (zi c_t_readHigh), .int (zi c_t_readWide), .ref a_t_wanted, .ref a_t_level, .ref a_t_chosen, .ref a_t_best])), (a_t_now, zI J 243 (va_up f_t_now (((((15 : Int) * p0) + (3 : Int)) + ((2 : Int) * (f_t_now ((((15 : Int) * p0) + (2 : Int))).toNat)))).toNat p1)), (a_t_diary, zI J 3402 q94.2.2)] dX9_addSlice_115 rfl (by decide) g96 rfl rfl ?_
              refine z_aload_n (pc' := 117) 2 dX9_addSlice_116 rfl rfl rfl ?_
              refine z_getfield (pc' := 120) (C := RX9) (T := TX9) (N := 20) 0 3 dX9_addSlice_117 iX9_addSlice_X9 rfl rfl (by decide) mX9_addSlice_f16 rfl rfl ?_
              refine z_iload (pc' := 122) 0 dX9_addSlice_120 rfl rfl ?_
              refine z_iconst (pc' := 123) dX9_addSlice_122 rfl ?_
              refine z_iadd (pc' := 124) dX9_addSlice_123 rfl ?_
              refine z_iload_n (pc' := 125) 5 dX9_addSlice_124 rfl rfl rfl ?_
              have g97 := zkx_p hsh
              replace hsh := zkx_k hsh
              refine z_iastore (pc' := 126) 1 [(a_t, .inr (8, [.int (zi q91.2), .int (zi c_t_high), .int (zi c_t_wide), .ref a_t_now, .ref a_t_trial, .ref a_t_diary, .int (zi q94.1), .int (zi q94.2.1), .ref a_t_kept, .ref a_t_isKept, .ref a_t_script, .int (zi c_t_scriptSize), .int (zi c_t_spot), .ref a_t_read, .int (zi c_t_readHigh), .int (zi c_t_readWide), .ref a_t_wanted, .ref a_t_level, .ref a_t_chosen, .ref a_t_best])), (a_t_now, zI J 243 (va_up (va_up f_t_now (((((15 : Int) * p0) + (3 : Int)) + ((2 : Int) * (f_t_now ((((15 : Int) * p0) + (2 : Int))).toNat)))).toNat p1) ((((((15 : Int) * p0) + (3 : Int)) + ((2 : Int) * (f_t_now ((((15 : Int) * p0) + (2 : Int))).toNat))) + (1 : Int))).toNat p2)), (a_t_diary, zI J 3402 q94.2.2)] dX9_addSlice_125 rfl (by decide) g97 rfl rfl ?_
              refine z_aload_n (pc' := 127) 2 dX9_addSlice_126 rfl rfl rfl ?_
              refine z_getfield (pc' := 130) (C := RX9) (T := TX9) (N := 20) 0 3 dX9_addSlice_127 iX9_addSlice_X9 rfl rfl (by decide) mX9_addSlice_f16 rfl rfl ?_
              refine z_bipush (pc' := 132) dX9_addSlice_130 (by decide) rfl ?_
              refine z_iload_n (pc' := 133) 3 dX9_addSlice_132 rfl rfl rfl ?_
              refine z_imul (pc' := 134) dX9_addSlice_133 rfl ?_
              refine z_iconst (pc' := 135) dX9_addSlice_134 rfl ?_
              refine z_iadd (pc' := 136) dX9_addSlice_135 rfl ?_
              refine z_dup2 (pc' := 137) dX9_addSlice_136 rfl rfl rfl ?_
              refine z_iaload (pc' := 138) 1 dX9_addSlice_137 rfl (by decide) g82 rfl ?_
              refine z_iconst (pc' := 139) dX9_addSlice_138 rfl ?_
              refine z_iadd (pc' := 140) dX9_addSlice_139 rfl ?_
              refine z_iastore (pc' := 141) 1 [(a_t, .inr (8, [.int (zi q91.2), .int (zi c_t_high), .int (zi c_t_wide), .ref a_t_now, .ref a_t_trial, .ref a_t_diary, .int (zi q94.1), .int (zi q94.2.1), .ref a_t_kept, .ref a_t_isKept, .ref a_t_script, .int (zi c_t_scriptSize), .int (zi c_t_spot), .ref a_t_read, .int (zi c_t_readHigh), .int (zi c_t_readWide), .ref a_t_wanted, .ref a_t_level, .ref a_t_chosen, .ref a_t_best])), (a_t_now, zI J 243 (va_up (va_up (va_up f_t_now (((((15 : Int) * p0) + (3 : Int)) + ((2 : Int) * (f_t_now ((((15 : Int) * p0) + (2 : Int))).toNat)))).toNat p1) ((((((15 : Int) * p0) + (3 : Int)) + ((2 : Int) * (f_t_now ((((15 : Int) * p0) + (2 : Int))).toNat))) + (1 : Int))).toNat p2) ((((15 : Int) * p0) + (2 : Int))).toNat (((va_up (va_up f_t_now (((((15 : Int) * p0) + (3 : Int)) + ((2 : Int) * (f_t_now ((((15 : Int) * p0) + (2 : Int))).toNat)))).toNat p1) ((((((15 : Int) * p0) + (3 : Int)) + ((2 : Int) * (f_t_now ((((15 : Int) * p0) + (2 : Int))).toNat))) + (1 : Int))).toNat p2) ((((15 : Int) * p0) + (2 : Int))).toNat) + (1 : Int)))), (a_t_diary, zI J 3402 q94.2.2)] dX9_addSlice_140 rfl (by decide) g82 rfl rfl ?_
              refine z_aload_n (pc' := 142) 2 dX9_addSlice_141 rfl rfl rfl ?_
              refine z_getfield (pc' := 145) (C := RX9) (T := TX9) (N := 20) 0 3 dX9_addSlice_142 iX9_addSlice_X9 rfl rfl (by decide) mX9_addSlice_f16 rfl rfl ?_
              refine z_bipush (pc' := 147) dX9_addSlice_145 (by decide) rfl ?_
              refine z_iload_n (pc' := 148) 3 dX9_addSlice_147 rfl rfl rfl ?_
              refine z_imul (pc' := 149) dX9_addSlice_148 rfl ?_
              refine z_iconst (pc' := 150) dX9_addSlice_149 rfl ?_
              refine z_iadd (pc' := 151) dX9_addSlice_150 rfl ?_
              refine z_iaload (pc' := 152) 1 dX9_addSlice_151 rfl (by decide) g82 rfl ?_
              cases hsh
              exact z_iret rfl dX9_addSlice_152 ⟨rfl, rfl⟩
            · replace hsh := zif_f q hsh
              refine z_iconst (pc' := 81) dX9_addSlice_80 rfl ?_
              refine z_perm [(a_t, .inr (8, [.int (zi q91.2), .int (zi c_t_high), .int (zi c_t_wide), .ref a_t_now, .ref a_t_trial, .ref a_t_diary, .int (zi c_t_acts), .int (zi c_t_next), .ref a_t_kept, .ref a_t_isKept, .ref a_t_script, .int (zi c_t_scriptSize), .int (zi c_t_spot), .ref a_t_read, .int (zi c_t_readHigh), .int (zi c_t_readWide), .ref a_t_wanted, .ref a_t_level, .ref a_t_chosen, .ref a_t_best])), (a_t_now, zI J 243 f_t_now), (a_t_diary, zI J 3402 f_t_diary)] [(4, .int (zi (1 : Int))), (0, .ref a_t), (1, .int (zi p0)), (2, .int (zi p1)), (3, .int (zi p2))] [2, 0, 1] [0, 1, 2, 3, 4] rfl rfl rfl ?_
              cases hsh
              exact z_iret rfl dX9_addSlice_81 ⟨rfl, rfl⟩
        · replace hsh := zif_t q hsh
          refine z_iconst (pc' := 50) dX9_addSlice_49 rfl ?_
          refine z_goto (tgt := 74) dX9_addSlice_50 (by decide) ?_
          obtain ⟨q98, h99, hsh⟩ := zbind hsh
          refine z_callV (pc' := 77) (C := RX9) (As := [.int (zi (2 : Int))]) (rest := []) (wr := [(a_t_now, zI J 243 f_t_now), (a_t_diary, zI J 3402 f_t_diary)]) 1 (zc_X9_refused l D J F (a_t := a_t) (a_t_now := a_t_now) (a_t_trial := a_t_trial) (a_t_diary := a_t_diary) (a_t_kept := a_t_kept) (a_t_isKept := a_t_isKept) (a_t_script := a_t_script) (a_t_read := a_t_read) (a_t_wanted := a_t_wanted) (a_t_level := a_t_level) (a_t_chosen := a_t_chosen) (a_t_best := a_t_best) (c_t_refusal := c_t_refusal) (c_t_high := c_t_high) (c_t_wide := c_t_wide) (c_t_acts := c_t_acts) (c_t_next := c_t_next) (c_t_scriptSize := c_t_scriptSize) (c_t_spot := c_t_spot) (c_t_readHigh := c_t_readHigh) (c_t_readWide := c_t_readWide) (p0 := (2 : Int))  q98 h99) dX9_addSlice_74 gX9_addSlice_X9_refused rfl rfl rfl (by decide +kernel) ⟨Nat.le_of_ble_eq_true rfl, Nat.le_of_ble_eq_true rfl⟩ ⟨Nat.le_of_ble_eq_true rfl, Nat.le_of_ble_eq_true rfl⟩ (z_spl_of [2, 0, 1] rfl rfl) rfl rfl rfl rfl (Nat.le_of_ble_eq_true rfl) rfl (fun rv w9 hq => ?_)
          obtain ⟨rfl, rfl⟩ := hq
          refine z_ws [(a_t_now, zI J 243 f_t_now), (a_t_diary, zI J 3402 f_t_diary), (a_t, .inr (8, [.int (zi q98.2), .int (zi c_t_high), .int (zi c_t_wide), .ref a_t_now, .ref a_t_trial, .ref a_t_diary, .int (zi c_t_acts), .int (zi c_t_next), .ref a_t_kept, .ref a_t_isKept, .ref a_t_script, .int (zi c_t_scriptSize), .int (zi c_t_spot), .ref a_t_read, .int (zi c_t_readHigh), .int (zi c_t_readWide), .ref a_t_wanted, .ref a_t_level, .ref a_t_chosen, .ref a_t_best]))] rfl ?_
          have g100 := zkr_p hsh
          replace hsh := zkr_k hsh
          refine z_if_eq (pc' := 80) (tgt := 82) dX9_addSlice_77 (by decide) g100 rfl (fun q => ?_) (fun q => ?_)
          · replace hsh := zif_t q hsh
            refine z_aload_n (pc' := 83) 1 dX9_addSlice_82 rfl rfl rfl ?_
            obtain ⟨q101, h102, hsh⟩ := zbind hsh
            refine z_callV (pc' := 86) (C := RX9) (As := []) (rest := []) (wr := []) 0 (zc_X9_note l D J F (a_t := a_t) (a_t_now := a_t_now) (a_t_trial := a_t_trial) (a_t_diary := a_t_diary) (a_t_kept := a_t_kept) (a_t_isKept := a_t_isKept) (a_t_script := a_t_script) (a_t_read := a_t_read) (a_t_wanted := a_t_wanted) (a_t_level := a_t_level) (a_t_chosen := a_t_chosen) (a_t_best := a_t_best) (c_t_refusal := q98.2) (c_t_high := c_t_high) (c_t_wide := c_t_wide) (c_t_acts := c_t_acts) (c_t_next := c_t_next) (c_t_scriptSize := c_t_scriptSize) (c_t_spot := c_t_spot) (c_t_readHigh := c_t_readHigh) (c_t_readWide := c_t_readWide) (f_t_now := f_t_now) (f_t_diary := f_t_diary)  q101 h102) dX9_addSlice_83 gX9_addSlice_X9_note rfl rfl rfl (by decide +kernel) ⟨Nat.le_of_ble_eq_true rfl, Nat.le_of_ble_eq_true rfl⟩ ⟨Nat.le_of_ble_eq_true rfl, Nat.le_of_ble_eq_true rfl⟩ (z_spl_of [2, 0, 1] rfl rfl) rfl rfl rfl rfl (Nat.le_of_ble_eq_true rfl) rfl (fun rv w9 hq => ?_)
            obtain ⟨rfl, rfl⟩ := hq
            refine z_ws [(a_t, .inr (8, [.int (zi q98.2), .int (zi c_t_high), .int (zi c_t_wide), .ref a_t_now, .ref a_t_trial, .ref a_t_diary, .int (zi q101.1), .int (zi q101.2.1), .ref a_t_kept, .ref a_t_isKept, .ref a_t_script, .int (zi c_t_scriptSize), .int (zi c_t_spot), .ref a_t_read, .int (zi c_t_readHigh), .int (zi c_t_readWide), .ref a_t_wanted, .ref a_t_level, .ref a_t_chosen, .ref a_t_best])), (a_t_now, zI J 243 f_t_now), (a_t_diary, zI J 3402 q101.2.2)] rfl ?_
            refine z_bipush (pc' := 88) dX9_addSlice_86 (by decide) rfl ?_
            refine z_iload_n (pc' := 89) 2 dX9_addSlice_88 rfl rfl rfl ?_
            refine z_imul (pc' := 90) dX9_addSlice_89 rfl ?_
            refine z_iconst (pc' := 91) dX9_addSlice_90 rfl ?_
            refine z_iadd (pc' := 92) dX9_addSlice_91 rfl ?_
            refine z_iconst (pc' := 93) dX9_addSlice_92 rfl ?_
            refine z_aload_n (pc' := 94) 1 dX9_addSlice_93 rfl rfl rfl ?_
            refine z_getfield (pc' := 97) (C := RX9) (T := TX9) (N := 20) 0 3 dX9_addSlice_94 iX9_addSlice_X9 rfl rfl (by decide) mX9_addSlice_f16 rfl rfl ?_
            refine z_bipush (pc' := 99) dX9_addSlice_97 (by decide) rfl ?_
            refine z_iload_n (pc' := 100) 2 dX9_addSlice_99 rfl rfl rfl ?_
            refine z_imul (pc' := 101) dX9_addSlice_100 rfl ?_
            refine z_iconst (pc' := 102) dX9_addSlice_101 rfl ?_
            refine z_iadd (pc' := 103) dX9_addSlice_102 rfl ?_
            have g103 := zkx_p hsh
            replace hsh := zkx_k hsh
            refine z_iaload (pc' := 104) 1 dX9_addSlice_103 rfl (by decide) g103 rfl ?_
            refine z_imul (pc' := 105) dX9_addSlice_104 rfl ?_
            refine z_iadd (pc' := 106) dX9_addSlice_105 rfl ?_
            refine z_istore (pc' := 108) [(5, .int (zi ((((15 : Int) * p0) + (3 : Int)) + ((2 : Int) * (f_t_now ((((15 : Int) * p0) + (2 : Int))).toNat))))), (4, .int (zi (1 : Int))), (0, .ref a_t), (1, .int (zi p0)), (2, .int (zi p1)), (3, .int (zi p2))] dX9_addSlice_106 (by decide) rfl rfl ?_
            refine z_aload_n (pc' := 109) 2 dX9_addSlice_108 rfl rfl rfl ?_
            refine z_getfield (pc' := 112) (C := RX9) (T := TX9) (N := 20) 0 3 dX9_addSlice_109 iX9_addSlice_X9 rfl rfl (by decide) mX9_addSlice_f16 rfl rfl ?_
            refine z_iload (pc' := 114) 0 dX9_addSlice_112 rfl rfl ?_
            refine z_iload_n (pc' := 115) 4 dX9_addSlice_114 rfl rfl rfl ?_
            have g104 := zkx_p hsh
            replace hsh := zkx_k hsh
            refine z_iastore (pc' := 116) 1 [(a_t, .inr (8, [.int (zi q98.2), .int (zi c_t_high), .int (zi c_t_wide), .ref a_t_now, .ref a_t_trial, .ref a_t_diary, .int (zi q101.1), .int (zi q101.2.1), .ref a_t_kept, .ref a_t_isKept, .ref a_t_script, .int (zi c_t_scriptSize), .int (zi c_t_spot), .ref a_t_read, .int (zi c_t_readHigh), .int (zi c_t_readWide), .ref a_t_wanted, .ref a_t_level, .ref a_t_chosen, .ref a_t_best])), (a_t_now, zI J 243 (va_up f_t_now (((((15 : Int) * p0) + (3 : Int)) + ((2 : Int) * (f_t_now ((((15 : Int) * p0) + (2 : Int))).toNat)))).toNat p1)), (a_t_diary, zI J 3402 q101.2.2)] dX9_addSlice_115 rfl (by decide) g104 rfl rfl ?_
            refine z_aload_n (pc' := 117) 2 dX9_addSlice_116 rfl rfl rfl ?_
            refine z_getfield (pc' := 120) (C := RX9) (T := TX9) (N := 20) 0 3 dX9_addSlice_117 iX9_addSlice_X9 rfl rfl (by decide) mX9_addSlice_f16 rfl rfl ?_
            refine z_iload (pc' := 122) 0 dX9_addSlice_120 rfl rfl ?_
            refine z_iconst (pc' := 123) dX9_addSlice_122 rfl ?_
            refine z_iadd (pc' := 124) dX9_addSlice_123 rfl ?_
            refine z_iload_n (pc' := 125) 5 dX9_addSlice_124 rfl rfl rfl ?_
            have g105 := zkx_p hsh
            replace hsh := zkx_k hsh
            refine z_iastore (pc' := 126) 1 [(a_t, .inr (8, [.int (zi q98.2), .int (zi c_t_high), .int (zi c_t_wide), .ref a_t_now, .ref a_t_trial, .ref a_t_diary, .int (zi q101.1), .int (zi q101.2.1), .ref a_t_kept, .ref a_t_isKept, .ref a_t_script, .int (zi c_t_scriptSize), .int (zi c_t_spot), .ref a_t_read, .int (zi c_t_readHigh), .int (zi c_t_readWide), .ref a_t_wanted, .ref a_t_level, .ref a_t_chosen, .ref a_t_best])), (a_t_now, zI J 243 (va_up (va_up f_t_now (((((15 : Int) * p0) + (3 : Int)) + ((2 : Int) * (f_t_now ((((15 : Int) * p0) + (2 : Int))).toNat)))).toNat p1) ((((((15 : Int) * p0) + (3 : Int)) + ((2 : Int) * (f_t_now ((((15 : Int) * p0) + (2 : Int))).toNat))) + (1 : Int))).toNat p2)), (a_t_diary, zI J 3402 q101.2.2)] dX9_addSlice_125 rfl (by decide) g105 rfl rfl ?_
            refine z_aload_n (pc' := 127) 2 dX9_addSlice_126 rfl rfl rfl ?_
            refine z_getfield (pc' := 130) (C := RX9) (T := TX9) (N := 20) 0 3 dX9_addSlice_127 iX9_addSlice_X9 rfl rfl (by decide) mX9_addSlice_f16 rfl rfl ?_
            refine z_bipush (pc' := 132) dX9_addSlice_130 (by decide) rfl ?_
            refine z_iload_n (pc' := 133) 3 dX9_addSlice_132 rfl rfl rfl ?_
            refine z_imul (pc' := 134) dX9_addSlice_133 rfl ?_
            refine z_iconst (pc' := 135) dX9_addSlice_134 rfl ?_
            refine z_iadd (pc' := 136) dX9_addSlice_135 rfl ?_
            refine z_dup2 (pc' := 137) dX9_addSlice_136 rfl rfl rfl ?_
            refine z_iaload (pc' := 138) 1 dX9_addSlice_137 rfl (by decide) g103 rfl ?_
            refine z_iconst (pc' := 139) dX9_addSlice_138 rfl ?_
            refine z_iadd (pc' := 140) dX9_addSlice_139 rfl ?_
            refine z_iastore (pc' := 141) 1 [(a_t, .inr (8, [.int (zi q98.2), .int (zi c_t_high), .int (zi c_t_wide), .ref a_t_now, .ref a_t_trial, .ref a_t_diary, .int (zi q101.1), .int (zi q101.2.1), .ref a_t_kept, .ref a_t_isKept, .ref a_t_script, .int (zi c_t_scriptSize), .int (zi c_t_spot), .ref a_t_read, .int (zi c_t_readHigh), .int (zi c_t_readWide), .ref a_t_wanted, .ref a_t_level, .ref a_t_chosen, .ref a_t_best])), (a_t_now, zI J 243 (va_up (va_up (va_up f_t_now (((((15 : Int) * p0) + (3 : Int)) + ((2 : Int) * (f_t_now ((((15 : Int) * p0) + (2 : Int))).toNat)))).toNat p1) ((((((15 : Int) * p0) + (3 : Int)) + ((2 : Int) * (f_t_now ((((15 : Int) * p0) + (2 : Int))).toNat))) + (1 : Int))).toNat p2) ((((15 : Int) * p0) + (2 : Int))).toNat (((va_up (va_up f_t_now (((((15 : Int) * p0) + (3 : Int)) + ((2 : Int) * (f_t_now ((((15 : Int) * p0) + (2 : Int))).toNat)))).toNat p1) ((((((15 : Int) * p0) + (3 : Int)) + ((2 : Int) * (f_t_now ((((15 : Int) * p0) + (2 : Int))).toNat))) + (1 : Int))).toNat p2) ((((15 : Int) * p0) + (2 : Int))).toNat) + (1 : Int)))), (a_t_diary, zI J 3402 q101.2.2)] dX9_addSlice_140 rfl (by decide) g103 rfl rfl ?_
            refine z_aload_n (pc' := 142) 2 dX9_addSlice_141 rfl rfl rfl ?_
            refine z_getfield (pc' := 145) (C := RX9) (T := TX9) (N := 20) 0 3 dX9_addSlice_142 iX9_addSlice_X9 rfl rfl (by decide) mX9_addSlice_f16 rfl rfl ?_
            refine z_bipush (pc' := 147) dX9_addSlice_145 (by decide) rfl ?_
            refine z_iload_n (pc' := 148) 3 dX9_addSlice_147 rfl rfl rfl ?_
            refine z_imul (pc' := 149) dX9_addSlice_148 rfl ?_
            refine z_iconst (pc' := 150) dX9_addSlice_149 rfl ?_
            refine z_iadd (pc' := 151) dX9_addSlice_150 rfl ?_
            refine z_iaload (pc' := 152) 1 dX9_addSlice_151 rfl (by decide) g103 rfl ?_
            cases hsh
            exact z_iret rfl dX9_addSlice_152 ⟨rfl, rfl⟩
          · replace hsh := zif_f q hsh
            refine z_iconst (pc' := 81) dX9_addSlice_80 rfl ?_
            refine z_perm [(a_t, .inr (8, [.int (zi q98.2), .int (zi c_t_high), .int (zi c_t_wide), .ref a_t_now, .ref a_t_trial, .ref a_t_diary, .int (zi c_t_acts), .int (zi c_t_next), .ref a_t_kept, .ref a_t_isKept, .ref a_t_script, .int (zi c_t_scriptSize), .int (zi c_t_spot), .ref a_t_read, .int (zi c_t_readHigh), .int (zi c_t_readWide), .ref a_t_wanted, .ref a_t_level, .ref a_t_chosen, .ref a_t_best])), (a_t_now, zI J 243 f_t_now), (a_t_diary, zI J 3402 f_t_diary)] [(4, .int (zi (1 : Int))), (0, .ref a_t), (1, .int (zi p0)), (2, .int (zi p1)), (3, .int (zi p2))] [2, 0, 1] [0, 1, 2, 3, 4] rfl rfl rfl ?_
            cases hsh
            exact z_iret rfl dX9_addSlice_81 ⟨rfl, rfl⟩
      · replace hsh := zif_t q hsh
        refine z_iconst (pc' := 41) dX9_addSlice_40 rfl ?_
        refine z_goto (tgt := 74) dX9_addSlice_41 (by decide) ?_
        obtain ⟨q106, h107, hsh⟩ := zbind hsh
        refine z_callV (pc' := 77) (C := RX9) (As := [.int (zi (1 : Int))]) (rest := []) (wr := [(a_t_now, zI J 243 f_t_now), (a_t_diary, zI J 3402 f_t_diary)]) 1 (zc_X9_refused l D J F (a_t := a_t) (a_t_now := a_t_now) (a_t_trial := a_t_trial) (a_t_diary := a_t_diary) (a_t_kept := a_t_kept) (a_t_isKept := a_t_isKept) (a_t_script := a_t_script) (a_t_read := a_t_read) (a_t_wanted := a_t_wanted) (a_t_level := a_t_level) (a_t_chosen := a_t_chosen) (a_t_best := a_t_best) (c_t_refusal := c_t_refusal) (c_t_high := c_t_high) (c_t_wide := c_t_wide) (c_t_acts := c_t_acts) (c_t_next := c_t_next) (c_t_scriptSize := c_t_scriptSize) (c_t_spot := c_t_spot) (c_t_readHigh := c_t_readHigh) (c_t_readWide := c_t_readWide) (p0 := (1 : Int))  q106 h107) dX9_addSlice_74 gX9_addSlice_X9_refused rfl rfl rfl (by decide +kernel) ⟨Nat.le_of_ble_eq_true rfl, Nat.le_of_ble_eq_true rfl⟩ ⟨Nat.le_of_ble_eq_true rfl, Nat.le_of_ble_eq_true rfl⟩ (z_spl_of [2, 0, 1] rfl rfl) rfl rfl rfl rfl (Nat.le_of_ble_eq_true rfl) rfl (fun rv w9 hq => ?_)
        obtain ⟨rfl, rfl⟩ := hq
        refine z_ws [(a_t_now, zI J 243 f_t_now), (a_t_diary, zI J 3402 f_t_diary), (a_t, .inr (8, [.int (zi q106.2), .int (zi c_t_high), .int (zi c_t_wide), .ref a_t_now, .ref a_t_trial, .ref a_t_diary, .int (zi c_t_acts), .int (zi c_t_next), .ref a_t_kept, .ref a_t_isKept, .ref a_t_script, .int (zi c_t_scriptSize), .int (zi c_t_spot), .ref a_t_read, .int (zi c_t_readHigh), .int (zi c_t_readWide), .ref a_t_wanted, .ref a_t_level, .ref a_t_chosen, .ref a_t_best]))] rfl ?_
        have g108 := zkr_p hsh
        replace hsh := zkr_k hsh
        refine z_if_eq (pc' := 80) (tgt := 82) dX9_addSlice_77 (by decide) g108 rfl (fun q => ?_) (fun q => ?_)
        · replace hsh := zif_t q hsh
          refine z_aload_n (pc' := 83) 1 dX9_addSlice_82 rfl rfl rfl ?_
          obtain ⟨q109, h110, hsh⟩ := zbind hsh
          refine z_callV (pc' := 86) (C := RX9) (As := []) (rest := []) (wr := []) 0 (zc_X9_note l D J F (a_t := a_t) (a_t_now := a_t_now) (a_t_trial := a_t_trial) (a_t_diary := a_t_diary) (a_t_kept := a_t_kept) (a_t_isKept := a_t_isKept) (a_t_script := a_t_script) (a_t_read := a_t_read) (a_t_wanted := a_t_wanted) (a_t_level := a_t_level) (a_t_chosen := a_t_chosen) (a_t_best := a_t_best) (c_t_refusal := q106.2) (c_t_high := c_t_high) (c_t_wide := c_t_wide) (c_t_acts := c_t_acts) (c_t_next := c_t_next) (c_t_scriptSize := c_t_scriptSize) (c_t_spot := c_t_spot) (c_t_readHigh := c_t_readHigh) (c_t_readWide := c_t_readWide) (f_t_now := f_t_now) (f_t_diary := f_t_diary)  q109 h110) dX9_addSlice_83 gX9_addSlice_X9_note rfl rfl rfl (by decide +kernel) ⟨Nat.le_of_ble_eq_true rfl, Nat.le_of_ble_eq_true rfl⟩ ⟨Nat.le_of_ble_eq_true rfl, Nat.le_of_ble_eq_true rfl⟩ (z_spl_of [2, 0, 1] rfl rfl) rfl rfl rfl rfl (Nat.le_of_ble_eq_true rfl) rfl (fun rv w9 hq => ?_)
          obtain ⟨rfl, rfl⟩ := hq
          refine z_ws [(a_t, .inr (8, [.int (zi q106.2), .int (zi c_t_high), .int (zi c_t_wide), .ref a_t_now, .ref a_t_trial, .ref a_t_diary, .int (zi q109.1), .int (zi q109.2.1), .ref a_t_kept, .ref a_t_isKept, .ref a_t_script, .int (zi c_t_scriptSize), .int (zi c_t_spot), .ref a_t_read, .int (zi c_t_readHigh), .int (zi c_t_readWide), .ref a_t_wanted, .ref a_t_level, .ref a_t_chosen, .ref a_t_best])), (a_t_now, zI J 243 f_t_now), (a_t_diary, zI J 3402 q109.2.2)] rfl ?_
          refine z_bipush (pc' := 88) dX9_addSlice_86 (by decide) rfl ?_
          refine z_iload_n (pc' := 89) 2 dX9_addSlice_88 rfl rfl rfl ?_
          refine z_imul (pc' := 90) dX9_addSlice_89 rfl ?_
          refine z_iconst (pc' := 91) dX9_addSlice_90 rfl ?_
          refine z_iadd (pc' := 92) dX9_addSlice_91 rfl ?_
          refine z_iconst (pc' := 93) dX9_addSlice_92 rfl ?_
          refine z_aload_n (pc' := 94) 1 dX9_addSlice_93 rfl rfl rfl ?_
          refine z_getfield (pc' := 97) (C := RX9) (T := TX9) (N := 20) 0 3 dX9_addSlice_94 iX9_addSlice_X9 rfl rfl (by decide) mX9_addSlice_f16 rfl rfl ?_
          refine z_bipush (pc' := 99) dX9_addSlice_97 (by decide) rfl ?_
          refine z_iload_n (pc' := 100) 2 dX9_addSlice_99 rfl rfl rfl ?_
          refine z_imul (pc' := 101) dX9_addSlice_100 rfl ?_
          refine z_iconst (pc' := 102) dX9_addSlice_101 rfl ?_
          refine z_iadd (pc' := 103) dX9_addSlice_102 rfl ?_
          have g111 := zkx_p hsh
          replace hsh := zkx_k hsh
          refine z_iaload (pc' := 104) 1 dX9_addSlice_103 rfl (by decide) g111 rfl ?_
          refine z_imul (pc' := 105) dX9_addSlice_104 rfl ?_
          refine z_iadd (pc' := 106) dX9_addSlice_105 rfl ?_
          refine z_istore (pc' := 108) [(5, .int (zi ((((15 : Int) * p0) + (3 : Int)) + ((2 : Int) * (f_t_now ((((15 : Int) * p0) + (2 : Int))).toNat))))), (4, .int (zi (1 : Int))), (0, .ref a_t), (1, .int (zi p0)), (2, .int (zi p1)), (3, .int (zi p2))] dX9_addSlice_106 (by decide) rfl rfl ?_
          refine z_aload_n (pc' := 109) 2 dX9_addSlice_108 rfl rfl rfl ?_
          refine z_getfield (pc' := 112) (C := RX9) (T := TX9) (N := 20) 0 3 dX9_addSlice_109 iX9_addSlice_X9 rfl rfl (by decide) mX9_addSlice_f16 rfl rfl ?_
          refine z_iload (pc' := 114) 0 dX9_addSlice_112 rfl rfl ?_
          refine z_iload_n (pc' := 115) 4 dX9_addSlice_114 rfl rfl rfl ?_
          have g112 := zkx_p hsh
          replace hsh := zkx_k hsh
          refine z_iastore (pc' := 116) 1 [(a_t, .inr (8, [.int (zi q106.2), .int (zi c_t_high), .int (zi c_t_wide), .ref a_t_now, .ref a_t_trial, .ref a_t_diary, .int (zi q109.1), .int (zi q109.2.1), .ref a_t_kept, .ref a_t_isKept, .ref a_t_script, .int (zi c_t_scriptSize), .int (zi c_t_spot), .ref a_t_read, .int (zi c_t_readHigh), .int (zi c_t_readWide), .ref a_t_wanted, .ref a_t_level, .ref a_t_chosen, .ref a_t_best])), (a_t_now, zI J 243 (va_up f_t_now (((((15 : Int) * p0) + (3 : Int)) + ((2 : Int) * (f_t_now ((((15 : Int) * p0) + (2 : Int))).toNat)))).toNat p1)), (a_t_diary, zI J 3402 q109.2.2)] dX9_addSlice_115 rfl (by decide) g112 rfl rfl ?_
          refine z_aload_n (pc' := 117) 2 dX9_addSlice_116 rfl rfl rfl ?_
          refine z_getfield (pc' := 120) (C := RX9) (T := TX9) (N := 20) 0 3 dX9_addSlice_117 iX9_addSlice_X9 rfl rfl (by decide) mX9_addSlice_f16 rfl rfl ?_
          refine z_iload (pc' := 122) 0 dX9_addSlice_120 rfl rfl ?_
          refine z_iconst (pc' := 123) dX9_addSlice_122 rfl ?_
          refine z_iadd (pc' := 124) dX9_addSlice_123 rfl ?_
          refine z_iload_n (pc' := 125) 5 dX9_addSlice_124 rfl rfl rfl ?_
          have g113 := zkx_p hsh
          replace hsh := zkx_k hsh
          refine z_iastore (pc' := 126) 1 [(a_t, .inr (8, [.int (zi q106.2), .int (zi c_t_high), .int (zi c_t_wide), .ref a_t_now, .ref a_t_trial, .ref a_t_diary, .int (zi q109.1), .int (zi q109.2.1), .ref a_t_kept, .ref a_t_isKept, .ref a_t_script, .int (zi c_t_scriptSize), .int (zi c_t_spot), .ref a_t_read, .int (zi c_t_readHigh), .int (zi c_t_readWide), .ref a_t_wanted, .ref a_t_level, .ref a_t_chosen, .ref a_t_best])), (a_t_now, zI J 243 (va_up (va_up f_t_now (((((15 : Int) * p0) + (3 : Int)) + ((2 : Int) * (f_t_now ((((15 : Int) * p0) + (2 : Int))).toNat)))).toNat p1) ((((((15 : Int) * p0) + (3 : Int)) + ((2 : Int) * (f_t_now ((((15 : Int) * p0) + (2 : Int))).toNat))) + (1 : Int))).toNat p2)), (a_t_diary, zI J 3402 q109.2.2)] dX9_addSlice_125 rfl (by decide) g113 rfl rfl ?_
          refine z_aload_n (pc' := 127) 2 dX9_addSlice_126 rfl rfl rfl ?_
          refine z_getfield (pc' := 130) (C := RX9) (T := TX9) (N := 20) 0 3 dX9_addSlice_127 iX9_addSlice_X9 rfl rfl (by decide) mX9_addSlice_f16 rfl rfl ?_
          refine z_bipush (pc' := 132) dX9_addSlice_130 (by decide) rfl ?_
          refine z_iload_n (pc' := 133) 3 dX9_addSlice_132 rfl rfl rfl ?_
          refine z_imul (pc' := 134) dX9_addSlice_133 rfl ?_
          refine z_iconst (pc' := 135) dX9_addSlice_134 rfl ?_
          refine z_iadd (pc' := 136) dX9_addSlice_135 rfl ?_
          refine z_dup2 (pc' := 137) dX9_addSlice_136 rfl rfl rfl ?_
          refine z_iaload (pc' := 138) 1 dX9_addSlice_137 rfl (by decide) g111 rfl ?_
          refine z_iconst (pc' := 139) dX9_addSlice_138 rfl ?_
          refine z_iadd (pc' := 140) dX9_addSlice_139 rfl ?_
          refine z_iastore (pc' := 141) 1 [(a_t, .inr (8, [.int (zi q106.2), .int (zi c_t_high), .int (zi c_t_wide), .ref a_t_now, .ref a_t_trial, .ref a_t_diary, .int (zi q109.1), .int (zi q109.2.1), .ref a_t_kept, .ref a_t_isKept, .ref a_t_script, .int (zi c_t_scriptSize), .int (zi c_t_spot), .ref a_t_read, .int (zi c_t_readHigh), .int (zi c_t_readWide), .ref a_t_wanted, .ref a_t_level, .ref a_t_chosen, .ref a_t_best])), (a_t_now, zI J 243 (va_up (va_up (va_up f_t_now (((((15 : Int) * p0) + (3 : Int)) + ((2 : Int) * (f_t_now ((((15 : Int) * p0) + (2 : Int))).toNat)))).toNat p1) ((((((15 : Int) * p0) + (3 : Int)) + ((2 : Int) * (f_t_now ((((15 : Int) * p0) + (2 : Int))).toNat))) + (1 : Int))).toNat p2) ((((15 : Int) * p0) + (2 : Int))).toNat (((va_up (va_up f_t_now (((((15 : Int) * p0) + (3 : Int)) + ((2 : Int) * (f_t_now ((((15 : Int) * p0) + (2 : Int))).toNat)))).toNat p1) ((((((15 : Int) * p0) + (3 : Int)) + ((2 : Int) * (f_t_now ((((15 : Int) * p0) + (2 : Int))).toNat))) + (1 : Int))).toNat p2) ((((15 : Int) * p0) + (2 : Int))).toNat) + (1 : Int)))), (a_t_diary, zI J 3402 q109.2.2)] dX9_addSlice_140 rfl (by decide) g111 rfl rfl ?_
          refine z_aload_n (pc' := 142) 2 dX9_addSlice_141 rfl rfl rfl ?_
          refine z_getfield (pc' := 145) (C := RX9) (T := TX9) (N := 20) 0 3 dX9_addSlice_142 iX9_addSlice_X9 rfl rfl (by decide) mX9_addSlice_f16 rfl rfl ?_
          refine z_bipush (pc' := 147) dX9_addSlice_145 (by decide) rfl ?_
          refine z_iload_n (pc' := 148) 3 dX9_addSlice_147 rfl rfl rfl ?_
          refine z_imul (pc' := 149) dX9_addSlice_148 rfl ?_
          refine z_iconst (pc' := 150) dX9_addSlice_149 rfl ?_
          refine z_iadd (pc' := 151) dX9_addSlice_150 rfl ?_
          refine z_iaload (pc' := 152) 1 dX9_addSlice_151 rfl (by decide) g111 rfl ?_
          cases hsh
          exact z_iret rfl dX9_addSlice_152 ⟨rfl, rfl⟩
        · replace hsh := zif_f q hsh
          refine z_iconst (pc' := 81) dX9_addSlice_80 rfl ?_
          refine z_perm [(a_t, .inr (8, [.int (zi q106.2), .int (zi c_t_high), .int (zi c_t_wide), .ref a_t_now, .ref a_t_trial, .ref a_t_diary, .int (zi c_t_acts), .int (zi c_t_next), .ref a_t_kept, .ref a_t_isKept, .ref a_t_script, .int (zi c_t_scriptSize), .int (zi c_t_spot), .ref a_t_read, .int (zi c_t_readHigh), .int (zi c_t_readWide), .ref a_t_wanted, .ref a_t_level, .ref a_t_chosen, .ref a_t_best])), (a_t_now, zI J 243 f_t_now), (a_t_diary, zI J 3402 f_t_diary)] [(4, .int (zi (1 : Int))), (0, .ref a_t), (1, .int (zi p0)), (2, .int (zi p1)), (3, .int (zi p2))] [2, 0, 1] [0, 1, 2, 3, 4] rfl rfl rfl ?_
          cases hsh
          exact z_iret rfl dX9_addSlice_81 ⟨rfl, rfl⟩
def sh_X9_isKeptBy_L15 (F : Nat) (p0 : Int) (c_t_high : Int) (c_t_wide : Int) (f_t_now : Nat → Int) (v4 : Int) (k : Int → Int → Option (Int)) : Nat → Int → Int → Option (Int)
  | 0, _, _ => none
  | N + 1, v11, v12 => (sh_X9_points F c_t_high c_t_wide).bind (fun (q13 : Int) => zkr v12 (zkr q13 (if v12 < q13 then zkr v11 (if v11 = (0 : Int) then sh_X9_isKeptBy_L15 F p0 c_t_high c_t_wide f_t_now v4 k N (0 : Int) (v12 + (1 : Int)) else (sh_X9_areBeside F c_t_wide v4 v12).bind (fun (q18 : Int) => zkr q18 (if q18 = (0 : Int) then sh_X9_isKeptBy_L15 F p0 c_t_high c_t_wide f_t_now v4 k N (1 : Int) (v12 + (1 : Int)) else zkx (((15 : Int) * v4) + (0 : Int)) 243 (zkx (((15 : Int) * v12) + (0 : Int)) 243 (zkr ((f_t_now ((((15 : Int) * v4) + (0 : Int))).toNat) - (f_t_now ((((15 : Int) * v12) + (0 : Int))).toNat)) (zkr p0 (if p0 < ((f_t_now ((((15 : Int) * v4) + (0 : Int))).toNat) - (f_t_now ((((15 : Int) * v12) + (0 : Int))).toNat)) then sh_X9_isKeptBy_L15 F p0 c_t_high c_t_wide f_t_now v4 k N (0 : Int) (v12 + (1 : Int)) else sh_X9_isKeptBy_L15 F p0 c_t_high c_t_wide f_t_now v4 k N (1 : Int) (v12 + (1 : Int))))))))) else k v11 v12)))
def sh_X9_isKeptBy_L4 (F : Nat) (p0 : Int) (c_t_high : Int) (c_t_wide : Int) (f_t_now : Nat → Int) (k : Int → Int → Option (Int)) : Nat → Int → Int → Option (Int)
  | 0, _, _ => none
  | N + 1, v3, v4 => (sh_X9_points F c_t_high c_t_wide).bind (fun (q5 : Int) => zkr v4 (zkr q5 (if v4 < q5 then sh_X9_isKeptBy_L15 F p0 c_t_high c_t_wide f_t_now v4 (fun (v25 : Int) (v26 : Int) => sh_X9_isKeptBy_L4 F p0 c_t_high c_t_wide f_t_now k N v25 (v4 + (1 : Int))) F v3 (0 : Int) else k v3 v4)))
def sh_X9_isKeptBy (F : Nat) (c_t_high : Int) (c_t_wide : Int) (f_t_now : Nat → Int) (p0 : Int) : Option (Int) := sh_X9_isKeptBy_L4 F p0 c_t_high c_t_wide f_t_now (fun (v27 : Int) (v28 : Int) => zkc (v27 = 0 ∨ v27 = 1) (some (v27))) F (1 : Int) (0 : Int)
theorem mX9_isKeptBy_f16 : Cond.fieldLink RX9 16 (TX9 3).1 (TX9 3).2.1 (TX9 3).2.2.1 ∈ wsX9_isKeptBy := List.mem_of_getElem? (i := 1) rfl
theorem iX9_isKeptBy_X9 : ∀ w ∈ wsX90, w ∈ wsX9_isKeptBy := fun _ h => (List.mem_cons_of_mem _ (List.mem_append_right _ h))
set_option maxRecDepth 100000 in
set_option maxHeartbeats 4000000 in
theorem zl_X9_isKeptBy_L15 {p : Program} {l : Launch} {e : Env} {s : State} {m : MethodId} {args : Array Value} {below : List Frame} {meth : Method} {c : Code} {A : Nat → Prop} {D : va_G} {J : Nat → ClassId} {F : Nat} {p0 : Int} {c_t_high : Int} {c_t_wide : Int} {f_t_now : Nat → Int} {v4 : Int} {a_t : Nat} {c_t_refusal : Int} {a_t_now : Nat} {a_t_trial : Nat} {a_t_diary : Nat} {c_t_acts : Int} {c_t_next : Int} {a_t_kept : Nat} {a_t_isKept : Nat} {a_t_script : Nat} {c_t_scriptSize : Int} {c_t_spot : Int} {a_t_read : Nat} {c_t_readHigh : Int} {c_t_readWide : Int} {a_t_wanted : Nat} {a_t_level : Nat} {a_t_chosen : Nat} {a_t_best : Nat} {res : Int} {k : Int → Int → Option (Int)} (hk : ∀ (v11' : Int) (v12' : Int), k v11' v12' = some res → Z p l e ({ frames := 1, cells := 0, slots := 0, locals := 24 } : Room) s m args below meth c (MQ below (zQ D J A (fun rv w9 => rv = some (.int (zi res)) ∧ w9 = [(a_t, .inr (8, [.int (zi c_t_refusal), .int (zi c_t_high), .int (zi c_t_wide), .ref a_t_now, .ref a_t_trial, .ref a_t_diary, .int (zi c_t_acts), .int (zi c_t_next), .ref a_t_kept, .ref a_t_isKept, .ref a_t_script, .int (zi c_t_scriptSize), .int (zi c_t_spot), .ref a_t_read, .int (zi c_t_readHigh), .int (zi c_t_readWide), .ref a_t_wanted, .ref a_t_level, .ref a_t_chosen, .ref a_t_best])), (a_t_now, zI J 243 f_t_now)])) args s 0 0 A) cX9_isKeptBy 5 wsX9_isKeptBy RX9 D J A (some .boolean) (yX9_isKeptBy.name, []) 0 0 [(a_t, .inr (8, [.int (zi c_t_refusal), .int (zi c_t_high), .int (zi c_t_wide), .ref a_t_now, .ref a_t_trial, .ref a_t_diary, .int (zi c_t_acts), .int (zi c_t_next), .ref a_t_kept, .ref a_t_isKept, .ref a_t_script, .int (zi c_t_scriptSize), .int (zi c_t_spot), .ref a_t_read, .int (zi c_t_readHigh), .int (zi c_t_readWide), .ref a_t_wanted, .ref a_t_level, .ref a_t_chosen, .ref a_t_best])), (a_t_now, zI J 243 f_t_now)] [(0, .ref a_t), (1, .int (zi p0)), (2, .int (zi v11')), (3, .int (zi v4))] 78 []) : ∀ (N : Nat) (v11 : Int) (v12 : Int), sh_X9_isKeptBy_L15 F p0 c_t_high c_t_wide f_t_now v4 k N v11 v12 = some res → Z p l e ({ frames := 1, cells := 0, slots := 0, locals := 24 } : Room) s m args below meth c (MQ below (zQ D J A (fun rv w9 => rv = some (.int (zi res)) ∧ w9 = [(a_t, .inr (8, [.int (zi c_t_refusal), .int (zi c_t_high), .int (zi c_t_wide), .ref a_t_now, .ref a_t_trial, .ref a_t_diary, .int (zi c_t_acts), .int (zi c_t_next), .ref a_t_kept, .ref a_t_isKept, .ref a_t_script, .int (zi c_t_scriptSize), .int (zi c_t_spot), .ref a_t_read, .int (zi c_t_readHigh), .int (zi c_t_readWide), .ref a_t_wanted, .ref a_t_level, .ref a_t_chosen, .ref a_t_best])), (a_t_now, zI J 243 f_t_now)])) args s 0 0 A) cX9_isKeptBy 5 wsX9_isKeptBy RX9 D J A (some .boolean) (yX9_isKeptBy.name, []) 0 0 [(a_t, .inr (8, [.int (zi c_t_refusal), .int (zi c_t_high), .int (zi c_t_wide), .ref a_t_now, .ref a_t_trial, .ref a_t_diary, .int (zi c_t_acts), .int (zi c_t_next), .ref a_t_kept, .ref a_t_isKept, .ref a_t_script, .int (zi c_t_scriptSize), .int (zi c_t_spot), .ref a_t_read, .int (zi c_t_readHigh), .int (zi c_t_readWide), .ref a_t_wanted, .ref a_t_level, .ref a_t_chosen, .ref a_t_best])), (a_t_now, zI J 243 f_t_now)] [(0, .ref a_t), (1, .int (zi p0)), (2, .int (zi v11)), (3, .int (zi v4)), (4, .int (zi v12))] 15 [] := by
  intro N
  induction N with
  | zero =>
    intro v11 v12 hsh
    exact absurd hsh (by simp [sh_X9_isKeptBy_L15])
  | succ N ih =>
    intro v11 v12 hsh
    rw [sh_X9_isKeptBy_L15] at hsh
    refine z_iload (pc' := 17) 4 dX9_isKeptBy_15 rfl rfl ?_
    refine z_aload_n (pc' := 18) 0 dX9_isKeptBy_17 rfl rfl rfl ?_
    obtain ⟨q13, h14, hsh⟩ := zbind hsh
    refine z_callV (pc' := 21) (C := RX9) (As := []) (rest := [.int (zi v12)]) (wr := [(a_t_now, zI J 243 f_t_now)]) 0 (zc_X9_points l D J F (a_t := a_t) (a_t_now := a_t_now) (a_t_trial := a_t_trial) (a_t_diary := a_t_diary) (a_t_kept := a_t_kept) (a_t_isKept := a_t_isKept) (a_t_script := a_t_script) (a_t_read := a_t_read) (a_t_wanted := a_t_wanted) (a_t_level := a_t_level) (a_t_chosen := a_t_chosen) (a_t_best := a_t_best) (c_t_refusal := c_t_refusal) (c_t_high := c_t_high) (c_t_wide := c_t_wide) (c_t_acts := c_t_acts) (c_t_next := c_t_next) (c_t_scriptSize := c_t_scriptSize) (c_t_spot := c_t_spot) (c_t_readHigh := c_t_readHigh) (c_t_readWide := c_t_readWide)  q13 h14) dX9_isKeptBy_18 gX9_isKeptBy_X9_points rfl rfl rfl (by decide +kernel) ⟨Nat.le_of_ble_eq_true rfl, Nat.le_of_ble_eq_true rfl⟩ ⟨Nat.le_of_ble_eq_true rfl, Nat.le_of_ble_eq_true rfl⟩ (z_spl_of [0, 1] rfl rfl) rfl rfl rfl rfl (Nat.le_of_ble_eq_true rfl) rfl (fun rv w9 hq => ?_)
    obtain ⟨rfl, rfl⟩ := hq
    refine z_ws [(a_t_now, zI J 243 f_t_now), (a_t, .inr (8, [.int (zi c_t_refusal), .int (zi c_t_high), .int (zi c_t_wide), .ref a_t_now, .ref a_t_trial, .ref a_t_diary, .int (zi c_t_acts), .int (zi c_t_next), .ref a_t_kept, .ref a_t_isKept, .ref a_t_script, .int (zi c_t_scriptSize), .int (zi c_t_spot), .ref a_t_read, .int (zi c_t_readHigh), .int (zi c_t_readWide), .ref a_t_wanted, .ref a_t_level, .ref a_t_chosen, .ref a_t_best]))] rfl ?_
    have g15 := zkr_p hsh
    replace hsh := zkr_k hsh
    have g16 := zkr_p hsh
    replace hsh := zkr_k hsh
    refine z_icmp_ge (pc' := 24) (tgt := 78) dX9_isKeptBy_21 (by decide) g15 g16 rfl (fun q => ?_) (fun q => ?_)
    · replace hsh := zif_f q hsh
      refine z_perm [(a_t, .inr (8, [.int (zi c_t_refusal), .int (zi c_t_high), .int (zi c_t_wide), .ref a_t_now, .ref a_t_trial, .ref a_t_diary, .int (zi c_t_acts), .int (zi c_t_next), .ref a_t_kept, .ref a_t_isKept, .ref a_t_script, .int (zi c_t_scriptSize), .int (zi c_t_spot), .ref a_t_read, .int (zi c_t_readHigh), .int (zi c_t_readWide), .ref a_t_wanted, .ref a_t_level, .ref a_t_chosen, .ref a_t_best])), (a_t_now, zI J 243 f_t_now)] [(0, .ref a_t), (1, .int (zi p0)), (2, .int (zi v11)), (3, .int (zi v4))] [1, 0] [0, 1, 2, 3] rfl rfl rfl ?_
      exact hk _ _ hsh
    · replace hsh := zif_t q hsh
      refine z_iload_n (pc' := 25) 2 dX9_isKeptBy_24 rfl rfl rfl ?_
      have g17 := zkr_p hsh
      replace hsh := zkr_k hsh
      refine z_if_eq (pc' := 28) (tgt := 70) dX9_isKeptBy_25 (by decide) g17 rfl (fun q => ?_) (fun q => ?_)
      · replace hsh := zif_t q hsh
        refine z_iconst (pc' := 71) dX9_isKeptBy_70 rfl ?_
        refine z_istore_n (pc' := 72) [(2, .int (zi (0 : Int))), (0, .ref a_t), (1, .int (zi p0)), (3, .int (zi v4)), (4, .int (zi v12))] dX9_isKeptBy_71 rfl (by decide) rfl rfl ?_
        refine z_iinc (pc' := 75) [(4, .int (zi (v12 + (1 : Int)))), (2, .int (zi (0 : Int))), (0, .ref a_t), (1, .int (zi p0)), (3, .int (zi v4))] 4 dX9_isKeptBy_72 rfl (by decide) rfl rfl ?_
        refine z_goto (tgt := 15) dX9_isKeptBy_75 (by decide) ?_
        refine z_perm [(a_t, .inr (8, [.int (zi c_t_refusal), .int (zi c_t_high), .int (zi c_t_wide), .ref a_t_now, .ref a_t_trial, .ref a_t_diary, .int (zi c_t_acts), .int (zi c_t_next), .ref a_t_kept, .ref a_t_isKept, .ref a_t_script, .int (zi c_t_scriptSize), .int (zi c_t_spot), .ref a_t_read, .int (zi c_t_readHigh), .int (zi c_t_readWide), .ref a_t_wanted, .ref a_t_level, .ref a_t_chosen, .ref a_t_best])), (a_t_now, zI J 243 f_t_now)] [(0, .ref a_t), (1, .int (zi p0)), (2, .int (zi (0 : Int))), (3, .int (zi v4)), (4, .int (zi (v12 + (1 : Int))))] [1, 0] [2, 3, 1, 4, 0] rfl rfl rfl ?_
        exact ih _ _ hsh
      · replace hsh := zif_f q hsh
        refine z_aload_n (pc' := 29) 0 dX9_isKeptBy_28 rfl rfl rfl ?_
        refine z_iload_n (pc' := 30) 3 dX9_isKeptBy_29 rfl rfl rfl ?_
        refine z_iload (pc' := 32) 4 dX9_isKeptBy_30 rfl rfl ?_
        obtain ⟨q18, h19, hsh⟩ := zbind hsh
        refine z_callV (pc' := 35) (C := RX9) (As := [.int (zi v4), .int (zi v12)]) (rest := []) (wr := [(a_t_now, zI J 243 f_t_now)]) 2 (zc_X9_areBeside l D J F (a_t := a_t) (a_t_now := a_t_now) (a_t_trial := a_t_trial) (a_t_diary := a_t_diary) (a_t_kept := a_t_kept) (a_t_isKept := a_t_isKept) (a_t_script := a_t_script) (a_t_read := a_t_read) (a_t_wanted := a_t_wanted) (a_t_level := a_t_level) (a_t_chosen := a_t_chosen) (a_t_best := a_t_best) (c_t_refusal := c_t_refusal) (c_t_high := c_t_high) (c_t_wide := c_t_wide) (c_t_acts := c_t_acts) (c_t_next := c_t_next) (c_t_scriptSize := c_t_scriptSize) (c_t_spot := c_t_spot) (c_t_readHigh := c_t_readHigh) (c_t_readWide := c_t_readWide) (p0 := v4) (p1 := v12)  q18 h19) dX9_isKeptBy_32 gX9_isKeptBy_X9_areBeside rfl rfl rfl (by decide +kernel) ⟨Nat.le_of_ble_eq_true rfl, Nat.le_of_ble_eq_true rfl⟩ ⟨Nat.le_of_ble_eq_true rfl, Nat.le_of_ble_eq_true rfl⟩ (z_spl_of [1, 0] rfl rfl) rfl rfl rfl rfl (Nat.le_of_ble_eq_true rfl) rfl (fun rv w9 hq => ?_)
        obtain ⟨rfl, rfl⟩ := hq
        refine z_ws [(a_t_now, zI J 243 f_t_now), (a_t, .inr (8, [.int (zi c_t_refusal), .int (zi c_t_high), .int (zi c_t_wide), .ref a_t_now, .ref a_t_trial, .ref a_t_diary, .int (zi c_t_acts), .int (zi c_t_next), .ref a_t_kept, .ref a_t_isKept, .ref a_t_script, .int (zi c_t_scriptSize), .int (zi c_t_spot), .ref a_t_read, .int (zi c_t_readHigh), .int (zi c_t_readWide), .ref a_t_wanted, .ref a_t_level, .ref a_t_chosen, .ref a_t_best]))] rfl ?_
        have g20 := zkr_p hsh
        replace hsh := zkr_k hsh
        refine z_if_eq (pc' := 38) (tgt := 66) dX9_isKeptBy_35 (by decide) g20 rfl (fun q => ?_) (fun q => ?_)
        · replace hsh := zif_t q hsh
          refine z_iconst (pc' := 67) dX9_isKeptBy_66 rfl ?_
          refine z_goto (tgt := 71) dX9_isKeptBy_67 (by decide) ?_
          refine z_istore_n (pc' := 72) [(2, .int (zi (1 : Int))), (0, .ref a_t), (1, .int (zi p0)), (3, .int (zi v4)), (4, .int (zi v12))] dX9_isKeptBy_71 rfl (by decide) rfl rfl ?_
          refine z_iinc (pc' := 75) [(4, .int (zi (v12 + (1 : Int)))), (2, .int (zi (1 : Int))), (0, .ref a_t), (1, .int (zi p0)), (3, .int (zi v4))] 4 dX9_isKeptBy_72 rfl (by decide) rfl rfl ?_
          refine z_goto (tgt := 15) dX9_isKeptBy_75 (by decide) ?_
          refine z_perm [(a_t, .inr (8, [.int (zi c_t_refusal), .int (zi c_t_high), .int (zi c_t_wide), .ref a_t_now, .ref a_t_trial, .ref a_t_diary, .int (zi c_t_acts), .int (zi c_t_next), .ref a_t_kept, .ref a_t_isKept, .ref a_t_script, .int (zi c_t_scriptSize), .int (zi c_t_spot), .ref a_t_read, .int (zi c_t_readHigh), .int (zi c_t_readWide), .ref a_t_wanted, .ref a_t_level, .ref a_t_chosen, .ref a_t_best])), (a_t_now, zI J 243 f_t_now)] [(0, .ref a_t), (1, .int (zi p0)), (2, .int (zi (1 : Int))), (3, .int (zi v4)), (4, .int (zi (v12 + (1 : Int))))] [1, 0] [2, 3, 1, 4, 0] rfl rfl rfl ?_
          exact ih _ _ hsh
        · replace hsh := zif_f q hsh
          refine z_aload_n (pc' := 39) 0 dX9_isKeptBy_38 rfl rfl rfl ?_
          refine z_getfield (pc' := 42) (C := RX9) (T := TX9) (N := 20) 1 3 dX9_isKeptBy_39 iX9_isKeptBy_X9 rfl rfl (by decide) mX9_isKeptBy_f16 rfl rfl ?_
          refine z_bipush (pc' := 44) dX9_isKeptBy_42 (by decide) rfl ?_
          refine z_iload_n (pc' := 45) 3 dX9_isKeptBy_44 rfl rfl rfl ?_
          refine z_imul (pc' := 46) dX9_isKeptBy_45 rfl ?_
          refine z_iconst (pc' := 47) dX9_isKeptBy_46 rfl ?_
          refine z_iadd (pc' := 48) dX9_isKeptBy_47 rfl ?_
          have g21 := zkx_p hsh
          replace hsh := zkx_k hsh
          refine z_iaload (pc' := 49) 0 dX9_isKeptBy_48 rfl (by decide) g21 rfl ?_
          refine z_aload_n (pc' := 50) 0 dX9_isKeptBy_49 rfl rfl rfl ?_
          refine z_getfield (pc' := 53) (C := RX9) (T := TX9) (N := 20) 1 3 dX9_isKeptBy_50 iX9_isKeptBy_X9 rfl rfl (by decide) mX9_isKeptBy_f16 rfl rfl ?_
          refine z_bipush (pc' := 55) dX9_isKeptBy_53 (by decide) rfl ?_
          refine z_iload (pc' := 57) 4 dX9_isKeptBy_55 rfl rfl ?_
          refine z_imul (pc' := 58) dX9_isKeptBy_57 rfl ?_
          refine z_iconst (pc' := 59) dX9_isKeptBy_58 rfl ?_
          refine z_iadd (pc' := 60) dX9_isKeptBy_59 rfl ?_
          have g22 := zkx_p hsh
          replace hsh := zkx_k hsh
          refine z_iaload (pc' := 61) 0 dX9_isKeptBy_60 rfl (by decide) g22 rfl ?_
          refine z_isub (pc' := 62) dX9_isKeptBy_61 rfl ?_
          refine z_iload_n (pc' := 63) 1 dX9_isKeptBy_62 rfl rfl rfl ?_
          have g23 := zkr_p hsh
          replace hsh := zkr_k hsh
          have g24 := zkr_p hsh
          replace hsh := zkr_k hsh
          refine z_icmp_gt (pc' := 66) (tgt := 70) dX9_isKeptBy_63 (by decide) g23 g24 rfl (fun q => ?_) (fun q => ?_)
          · replace hsh := zif_t q hsh
            refine z_iconst (pc' := 71) dX9_isKeptBy_70 rfl ?_
            refine z_istore_n (pc' := 72) [(2, .int (zi (0 : Int))), (0, .ref a_t), (1, .int (zi p0)), (3, .int (zi v4)), (4, .int (zi v12))] dX9_isKeptBy_71 rfl (by decide) rfl rfl ?_
            refine z_iinc (pc' := 75) [(4, .int (zi (v12 + (1 : Int)))), (2, .int (zi (0 : Int))), (0, .ref a_t), (1, .int (zi p0)), (3, .int (zi v4))] 4 dX9_isKeptBy_72 rfl (by decide) rfl rfl ?_
            refine z_goto (tgt := 15) dX9_isKeptBy_75 (by decide) ?_
            refine z_perm [(a_t, .inr (8, [.int (zi c_t_refusal), .int (zi c_t_high), .int (zi c_t_wide), .ref a_t_now, .ref a_t_trial, .ref a_t_diary, .int (zi c_t_acts), .int (zi c_t_next), .ref a_t_kept, .ref a_t_isKept, .ref a_t_script, .int (zi c_t_scriptSize), .int (zi c_t_spot), .ref a_t_read, .int (zi c_t_readHigh), .int (zi c_t_readWide), .ref a_t_wanted, .ref a_t_level, .ref a_t_chosen, .ref a_t_best])), (a_t_now, zI J 243 f_t_now)] [(0, .ref a_t), (1, .int (zi p0)), (2, .int (zi (0 : Int))), (3, .int (zi v4)), (4, .int (zi (v12 + (1 : Int))))] [1, 0] [2, 3, 1, 4, 0] rfl rfl rfl ?_
            exact ih _ _ hsh
          · replace hsh := zif_f q hsh
            refine z_iconst (pc' := 67) dX9_isKeptBy_66 rfl ?_
            refine z_goto (tgt := 71) dX9_isKeptBy_67 (by decide) ?_
            refine z_istore_n (pc' := 72) [(2, .int (zi (1 : Int))), (0, .ref a_t), (1, .int (zi p0)), (3, .int (zi v4)), (4, .int (zi v12))] dX9_isKeptBy_71 rfl (by decide) rfl rfl ?_
            refine z_iinc (pc' := 75) [(4, .int (zi (v12 + (1 : Int)))), (2, .int (zi (1 : Int))), (0, .ref a_t), (1, .int (zi p0)), (3, .int (zi v4))] 4 dX9_isKeptBy_72 rfl (by decide) rfl rfl ?_
            refine z_goto (tgt := 15) dX9_isKeptBy_75 (by decide) ?_
            refine z_perm [(a_t, .inr (8, [.int (zi c_t_refusal), .int (zi c_t_high), .int (zi c_t_wide), .ref a_t_now, .ref a_t_trial, .ref a_t_diary, .int (zi c_t_acts), .int (zi c_t_next), .ref a_t_kept, .ref a_t_isKept, .ref a_t_script, .int (zi c_t_scriptSize), .int (zi c_t_spot), .ref a_t_read, .int (zi c_t_readHigh), .int (zi c_t_readWide), .ref a_t_wanted, .ref a_t_level, .ref a_t_chosen, .ref a_t_best])), (a_t_now, zI J 243 f_t_now)] [(0, .ref a_t), (1, .int (zi p0)), (2, .int (zi (1 : Int))), (3, .int (zi v4)), (4, .int (zi (v12 + (1 : Int))))] [1, 0] [2, 3, 1, 4, 0] rfl rfl rfl ?_
            exact ih _ _ hsh
set_option maxRecDepth 100000 in
set_option maxHeartbeats 4000000 in
theorem zl_X9_isKeptBy_L4 {p : Program} {l : Launch} {e : Env} {s : State} {m : MethodId} {args : Array Value} {below : List Frame} {meth : Method} {c : Code} {A : Nat → Prop} {D : va_G} {J : Nat → ClassId} {F : Nat} {p0 : Int} {c_t_high : Int} {c_t_wide : Int} {f_t_now : Nat → Int} {a_t : Nat} {c_t_refusal : Int} {a_t_now : Nat} {a_t_trial : Nat} {a_t_diary : Nat} {c_t_acts : Int} {c_t_next : Int} {a_t_kept : Nat} {a_t_isKept : Nat} {a_t_script : Nat} {c_t_scriptSize : Int} {c_t_spot : Int} {a_t_read : Nat} {c_t_readHigh : Int} {c_t_readWide : Int} {a_t_wanted : Nat} {a_t_level : Nat} {a_t_chosen : Nat} {a_t_best : Nat} {res : Int} {k : Int → Int → Option (Int)} (hk : ∀ (v3' : Int) (v4' : Int), k v3' v4' = some res → Z p l e ({ frames := 1, cells := 0, slots := 0, locals := 24 } : Room) s m args below meth c (MQ below (zQ D J A (fun rv w9 => rv = some (.int (zi res)) ∧ w9 = [(a_t, .inr (8, [.int (zi c_t_refusal), .int (zi c_t_high), .int (zi c_t_wide), .ref a_t_now, .ref a_t_trial, .ref a_t_diary, .int (zi c_t_acts), .int (zi c_t_next), .ref a_t_kept, .ref a_t_isKept, .ref a_t_script, .int (zi c_t_scriptSize), .int (zi c_t_spot), .ref a_t_read, .int (zi c_t_readHigh), .int (zi c_t_readWide), .ref a_t_wanted, .ref a_t_level, .ref a_t_chosen, .ref a_t_best])), (a_t_now, zI J 243 f_t_now)])) args s 0 0 A) cX9_isKeptBy 5 wsX9_isKeptBy RX9 D J A (some .boolean) (yX9_isKeptBy.name, []) 0 0 [(a_t, .inr (8, [.int (zi c_t_refusal), .int (zi c_t_high), .int (zi c_t_wide), .ref a_t_now, .ref a_t_trial, .ref a_t_diary, .int (zi c_t_acts), .int (zi c_t_next), .ref a_t_kept, .ref a_t_isKept, .ref a_t_script, .int (zi c_t_scriptSize), .int (zi c_t_spot), .ref a_t_read, .int (zi c_t_readHigh), .int (zi c_t_readWide), .ref a_t_wanted, .ref a_t_level, .ref a_t_chosen, .ref a_t_best])), (a_t_now, zI J 243 f_t_now)] [(2, .int (zi v3'))] 84 []) : ∀ (N : Nat) (v3 : Int) (v4 : Int), sh_X9_isKeptBy_L4 F p0 c_t_high c_t_wide f_t_now k N v3 v4 = some res → Z p l e ({ frames := 1, cells := 0, slots := 0, locals := 24 } : Room) s m args below meth c (MQ below (zQ D J A (fun rv w9 => rv = some (.int (zi res)) ∧ w9 = [(a_t, .inr (8, [.int (zi c_t_refusal), .int (zi c_t_high), .int (zi c_t_wide), .ref a_t_now, .ref a_t_trial, .ref a_t_diary, .int (zi c_t_acts), .int (zi c_t_next), .ref a_t_kept, .ref a_t_isKept, .ref a_t_script, .int (zi c_t_scriptSize), .int (zi c_t_spot), .ref a_t_read, .int (zi c_t_readHigh), .int (zi c_t_readWide), .ref a_t_wanted, .ref a_t_level, .ref a_t_chosen, .ref a_t_best])), (a_t_now, zI J 243 f_t_now)])) args s 0 0 A) cX9_isKeptBy 5 wsX9_isKeptBy RX9 D J A (some .boolean) (yX9_isKeptBy.name, []) 0 0 [(a_t, .inr (8, [.int (zi c_t_refusal), .int (zi c_t_high), .int (zi c_t_wide), .ref a_t_now, .ref a_t_trial, .ref a_t_diary, .int (zi c_t_acts), .int (zi c_t_next), .ref a_t_kept, .ref a_t_isKept, .ref a_t_script, .int (zi c_t_scriptSize), .int (zi c_t_spot), .ref a_t_read, .int (zi c_t_readHigh), .int (zi c_t_readWide), .ref a_t_wanted, .ref a_t_level, .ref a_t_chosen, .ref a_t_best])), (a_t_now, zI J 243 f_t_now)] [(0, .ref a_t), (1, .int (zi p0)), (2, .int (zi v3)), (3, .int (zi v4))] 4 [] := by
  intro N
  induction N with
  | zero =>
    intro v3 v4 hsh
    exact absurd hsh (by simp [sh_X9_isKeptBy_L4])
  | succ N ih =>
    intro v3 v4 hsh
    rw [sh_X9_isKeptBy_L4] at hsh
    refine z_iload_n (pc' := 5) 3 dX9_isKeptBy_4 rfl rfl rfl ?_
    refine z_aload_n (pc' := 6) 0 dX9_isKeptBy_5 rfl rfl rfl ?_
    obtain ⟨q5, h6, hsh⟩ := zbind hsh
    refine z_callV (pc' := 9) (C := RX9) (As := []) (rest := [.int (zi v4)]) (wr := [(a_t_now, zI J 243 f_t_now)]) 0 (zc_X9_points l D J F (a_t := a_t) (a_t_now := a_t_now) (a_t_trial := a_t_trial) (a_t_diary := a_t_diary) (a_t_kept := a_t_kept) (a_t_isKept := a_t_isKept) (a_t_script := a_t_script) (a_t_read := a_t_read) (a_t_wanted := a_t_wanted) (a_t_level := a_t_level) (a_t_chosen := a_t_chosen) (a_t_best := a_t_best) (c_t_refusal := c_t_refusal) (c_t_high := c_t_high) (c_t_wide := c_t_wide) (c_t_acts := c_t_acts) (c_t_next := c_t_next) (c_t_scriptSize := c_t_scriptSize) (c_t_spot := c_t_spot) (c_t_readHigh := c_t_readHigh) (c_t_readWide := c_t_readWide)  q5 h6) dX9_isKeptBy_6 gX9_isKeptBy_X9_points rfl rfl rfl (by decide +kernel) ⟨Nat.le_of_ble_eq_true rfl, Nat.le_of_ble_eq_true rfl⟩ ⟨Nat.le_of_ble_eq_true rfl, Nat.le_of_ble_eq_true rfl⟩ (z_spl_of [0, 1] rfl rfl) rfl rfl rfl rfl (Nat.le_of_ble_eq_true rfl) rfl (fun rv w9 hq => ?_)
    obtain ⟨rfl, rfl⟩ := hq
    refine z_ws [(a_t_now, zI J 243 f_t_now), (a_t, .inr (8, [.int (zi c_t_refusal), .int (zi c_t_high), .int (zi c_t_wide), .ref a_t_now, .ref a_t_trial, .ref a_t_diary, .int (zi c_t_acts), .int (zi c_t_next), .ref a_t_kept, .ref a_t_isKept, .ref a_t_script, .int (zi c_t_scriptSize), .int (zi c_t_spot), .ref a_t_read, .int (zi c_t_readHigh), .int (zi c_t_readWide), .ref a_t_wanted, .ref a_t_level, .ref a_t_chosen, .ref a_t_best]))] rfl ?_
    have g7 := zkr_p hsh
    replace hsh := zkr_k hsh
    have g8 := zkr_p hsh
    replace hsh := zkr_k hsh
    refine z_icmp_ge (pc' := 12) (tgt := 84) dX9_isKeptBy_9 (by decide) g7 g8 rfl (fun q => ?_) (fun q => ?_)
    · replace hsh := zif_f q hsh
      refine z_perm [(a_t, .inr (8, [.int (zi c_t_refusal), .int (zi c_t_high), .int (zi c_t_wide), .ref a_t_now, .ref a_t_trial, .ref a_t_diary, .int (zi c_t_acts), .int (zi c_t_next), .ref a_t_kept, .ref a_t_isKept, .ref a_t_script, .int (zi c_t_scriptSize), .int (zi c_t_spot), .ref a_t_read, .int (zi c_t_readHigh), .int (zi c_t_readWide), .ref a_t_wanted, .ref a_t_level, .ref a_t_chosen, .ref a_t_best])), (a_t_now, zI J 243 f_t_now)] [(2, .int (zi v3))] [1, 0] [2] rfl rfl rfl ?_
      exact hk _ _ hsh
    · replace hsh := zif_t q hsh
      refine z_iconst (pc' := 13) dX9_isKeptBy_12 rfl ?_
      refine z_istore (pc' := 15) [(4, .int (zi (0 : Int))), (0, .ref a_t), (1, .int (zi p0)), (2, .int (zi v3)), (3, .int (zi v4))] dX9_isKeptBy_13 (by decide) rfl rfl ?_
      refine z_perm [(a_t, .inr (8, [.int (zi c_t_refusal), .int (zi c_t_high), .int (zi c_t_wide), .ref a_t_now, .ref a_t_trial, .ref a_t_diary, .int (zi c_t_acts), .int (zi c_t_next), .ref a_t_kept, .ref a_t_isKept, .ref a_t_script, .int (zi c_t_scriptSize), .int (zi c_t_spot), .ref a_t_read, .int (zi c_t_readHigh), .int (zi c_t_readWide), .ref a_t_wanted, .ref a_t_level, .ref a_t_chosen, .ref a_t_best])), (a_t_now, zI J 243 f_t_now)] [(0, .ref a_t), (1, .int (zi p0)), (2, .int (zi v3)), (3, .int (zi v4)), (4, .int (zi (0 : Int)))] [1, 0] [1, 2, 3, 4, 0] rfl rfl rfl ?_
      refine zl_X9_isKeptBy_L15 (F := F) (hk := fun v25 v26 hsh => ?_) _ _ _ hsh
      refine z_iinc (pc' := 81) [(3, .int (zi (v4 + (1 : Int)))), (0, .ref a_t), (1, .int (zi p0)), (2, .int (zi v25))] 3 dX9_isKeptBy_78 rfl (by decide) rfl rfl ?_
      refine z_goto (tgt := 4) dX9_isKeptBy_81 (by decide) ?_
      refine z_perm [(a_t, .inr (8, [.int (zi c_t_refusal), .int (zi c_t_high), .int (zi c_t_wide), .ref a_t_now, .ref a_t_trial, .ref a_t_diary, .int (zi c_t_acts), .int (zi c_t_next), .ref a_t_kept, .ref a_t_isKept, .ref a_t_script, .int (zi c_t_scriptSize), .int (zi c_t_spot), .ref a_t_read, .int (zi c_t_readHigh), .int (zi c_t_readWide), .ref a_t_wanted, .ref a_t_level, .ref a_t_chosen, .ref a_t_best])), (a_t_now, zI J 243 f_t_now)] [(0, .ref a_t), (1, .int (zi p0)), (2, .int (zi v25)), (3, .int (zi (v4 + (1 : Int))))] [0, 1] [1, 2, 3, 0] rfl rfl rfl ?_
      exact ih _ _ hsh
set_option maxRecDepth 100000 in
set_option maxHeartbeats 4000000 in
theorem zc_X9_isKeptBy (l : Launch) (D : va_G) (J : Nat → ClassId) (F : Nat) (a_t : Nat) (a_t_now : Nat) (a_t_trial : Nat) (a_t_diary : Nat) (a_t_kept : Nat) (a_t_isKept : Nat) (a_t_script : Nat) (a_t_read : Nat) (a_t_wanted : Nat) (a_t_level : Nat) (a_t_chosen : Nat) (a_t_best : Nat) (c_t_refusal : Int) (c_t_high : Int) (c_t_wide : Int) (c_t_acts : Int) (c_t_next : Int) (c_t_scriptSize : Int) (c_t_spot : Int) (c_t_readHigh : Int) (c_t_readWide : Int) (f_t_now : Nat → Int) (p0 : Int) (res : Int) (hsh : sh_X9_isKeptBy F c_t_high c_t_wide f_t_now p0 = some res) : ZM l D J yX9_isKeptBy wsX9_isKeptBy ({ frames := 1, cells := 0, slots := 0, locals := 24 } : Room) 0 0 [.ref a_t, .int (zi p0)] [(a_t, .inr (8, [.int (zi c_t_refusal), .int (zi c_t_high), .int (zi c_t_wide), .ref a_t_now, .ref a_t_trial, .ref a_t_diary, .int (zi c_t_acts), .int (zi c_t_next), .ref a_t_kept, .ref a_t_isKept, .ref a_t_script, .int (zi c_t_scriptSize), .int (zi c_t_spot), .ref a_t_read, .int (zi c_t_readHigh), .int (zi c_t_readWide), .ref a_t_wanted, .ref a_t_level, .ref a_t_chosen, .ref a_t_best])), (a_t_now, zI J 243 f_t_now)] (fun rv w9 => rv = some (.int (zi res)) ∧ w9 = [(a_t, .inr (8, [.int (zi c_t_refusal), .int (zi c_t_high), .int (zi c_t_wide), .ref a_t_now, .ref a_t_trial, .ref a_t_diary, .int (zi c_t_acts), .int (zi c_t_next), .ref a_t_kept, .ref a_t_isKept, .ref a_t_script, .int (zi c_t_scriptSize), .int (zi c_t_spot), .ref a_t_read, .int (zi c_t_readHigh), .int (zi c_t_readWide), .ref a_t_wanted, .ref a_t_level, .ref a_t_chosen, .ref a_t_best])), (a_t_now, zI J 243 f_t_now)]) := by
  refine z_ofZ (cc := cX9_isKeptBy) (maxL := 5) (ret := (some .boolean)) 0 0 (by decide) rfl (Nat.le_of_ble_eq_true rfl) [(0, .ref a_t), (1, .int (zi p0))] rfl ?_
  intro p e s m args below meth c A
  unfold sh_X9_isKeptBy at hsh
  refine z_iconst (pc' := 1) dX9_isKeptBy_0 rfl ?_
  refine z_istore_n (pc' := 2) [(2, .int (zi (1 : Int))), (0, .ref a_t), (1, .int (zi p0))] dX9_isKeptBy_1 rfl (by decide) rfl rfl ?_
  refine z_iconst (pc' := 3) dX9_isKeptBy_2 rfl ?_
  refine z_istore_n (pc' := 4) [(3, .int (zi (0 : Int))), (2, .int (zi (1 : Int))), (0, .ref a_t), (1, .int (zi p0))] dX9_isKeptBy_3 rfl (by decide) rfl rfl ?_
  refine z_perm [(a_t, .inr (8, [.int (zi c_t_refusal), .int (zi c_t_high), .int (zi c_t_wide), .ref a_t_now, .ref a_t_trial, .ref a_t_diary, .int (zi c_t_acts), .int (zi c_t_next), .ref a_t_kept, .ref a_t_isKept, .ref a_t_script, .int (zi c_t_scriptSize), .int (zi c_t_spot), .ref a_t_read, .int (zi c_t_readHigh), .int (zi c_t_readWide), .ref a_t_wanted, .ref a_t_level, .ref a_t_chosen, .ref a_t_best])), (a_t_now, zI J 243 f_t_now)] [(0, .ref a_t), (1, .int (zi p0)), (2, .int (zi (1 : Int))), (3, .int (zi (0 : Int)))] [0, 1] [2, 3, 1, 0] rfl rfl rfl ?_
  refine zl_X9_isKeptBy_L4 (F := F) (hk := fun v27 v28 hsh => ?_) _ _ _ hsh
  refine z_iload_n (pc' := 85) 0 dX9_isKeptBy_84 rfl rfl rfl ?_
  have g29 := zkc_p hsh
  replace hsh := zkc_k hsh
  cases hsh
  exact z_zret rfl (zn_z g29) dX9_isKeptBy_85 ⟨rfl, rfl⟩
