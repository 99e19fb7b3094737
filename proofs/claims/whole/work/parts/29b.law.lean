def f_L_law_L18 : Nat → Option Nat → Option Nat → Option Nat → Int32 → Hp → Option ((Hp))
  | 0, _, _, _, _, _ => none
  | n + 1, q0, q1, q2, v3, h =>
    (aln h q0 10).bind fun x9 =>
    if (x9 - (6 : Int32)) < v3 then
      some h
    else
      (rdI h q0 10 v3).bind fun x12 =>
      if (x12 &&& (31 : Int32)).toInt < 0 ∨ 28 < (x12 &&& (31 : Int32)).toInt then
        f_L_law_L18 n q0 q1 q2 (v3 + 6) h
      else if (x12 &&& (31 : Int32)) = 0 then
        (rdI h q0 10 (v3 + (1 : Int32))).bind fun x14 =>
        (rdI h q0 10 (v3 + (2 : Int32))).bind fun x16 =>
        (rdI h q0 10 (v3 + (3 : Int32))).bind fun x18 =>
        (rdI h q0 10 (v3 + (4 : Int32))).bind fun x20 =>
        (rdI h q0 10 (v3 + (5 : Int32))).bind fun x22 =>
        (rc h q1 7).bind fun g26 =>
        b1 (f_X8_feed g26 x14 x16 x18 x20 x22 h) fun x28 h24 =>
        (rdI h24 q0 10 (v3 + (1 : Int32))).bind fun x29 =>
        (rdI h24 q0 10 (v3 + (2 : Int32))).bind fun x31 =>
        (rdI h24 q0 10 (v3 + (3 : Int32))).bind fun x33 =>
        (rdI h24 q0 10 (v3 + (4 : Int32))).bind fun x35 =>
        (rdI h24 q0 10 (v3 + (5 : Int32))).bind fun x37 =>
        (rc h24 q2 8).bind fun g41 =>
        b1 (f_X9_feed g41 x29 x31 x33 x35 x37 h24) fun x43 h39 =>
        if x28 = x43 then
          f_L_law_L18 n q0 q1 q2 (v3 + 6) h39
        else
          none
      else if (x12 &&& (31 : Int32)) = 1 then
        (rdI h q0 10 (v3 + (1 : Int32))).bind fun x45 =>
        (rc h q1 7).bind fun g49 =>
        b1 (f_X8_end g49 x45 h) fun x51 h47 =>
        (rdI h47 q0 10 (v3 + (1 : Int32))).bind fun x52 =>
        (rc h47 q2 8).bind fun g56 =>
        b1 (f_X9_end g56 x52 h47) fun x58 h54 =>
        if x51 = x58 then
          f_L_law_L18 n q0 q1 q2 (v3 + 6) h54
        else
          none
      else if (x12 &&& (31 : Int32)) = 2 then
        (rdI h q0 10 (v3 + (1 : Int32))).bind fun x60 =>
        (rc h q1 7).bind fun g64 =>
        b1 (f_X8_act g64 x60 h) fun x66 h62 =>
        (rdI h62 q0 10 (v3 + (1 : Int32))).bind fun x67 =>
        (rc h62 q2 8).bind fun g71 =>
        b1 (f_X9_act g71 x67 h62) fun x73 h69 =>
        if x66 = x73 then
          f_L_law_L18 n q0 q1 q2 (v3 + 6) h69
        else
          none
      else if (x12 &&& (31 : Int32)) = 3 then
        (rdI h q0 10 (v3 + (1 : Int32))).bind fun x75 =>
        (rc h q1 7).bind fun g79 =>
        b1 (f_X8_fault g79 x75 h) fun x81 h77 =>
        (rdI h77 q0 10 (v3 + (1 : Int32))).bind fun x82 =>
        (rc h77 q2 8).bind fun g86 =>
        b1 (f_X9_fault g86 x82 h77) fun x88 h84 =>
        if x81 = x88 then
          f_L_law_L18 n q0 q1 q2 (v3 + 6) h84
        else
          none
      else if (x12 &&& (31 : Int32)) = 4 then
        (rdI h q0 10 (v3 + (1 : Int32))).bind fun x90 =>
        (rdI h q0 10 (v3 + (2 : Int32))).bind fun x92 =>
        b1 ((if x92 = (0 : Int32) then
            some (0, h)
          else
            some (1, h) : Option (Int32 × Hp))) fun w95 h96 =>
        (rc h96 q1 7).bind fun g100 =>
        b1 (f_X8_worker g100 x90 w95 h96) fun x102 h98 =>
        (rdI h98 q0 10 (v3 + (1 : Int32))).bind fun x103 =>
        (rdI h98 q0 10 (v3 + (2 : Int32))).bind fun x105 =>
        b1 ((if x105 = (0 : Int32) then
            some (0, h98)
          else
            some (1, h98) : Option (Int32 × Hp))) fun w108 h109 =>
        (rc h109 q2 8).bind fun g113 =>
        b1 (f_X9_worker g113 x103 w108 h109) fun x115 h111 =>
        if x102 = x115 then
          f_L_law_L18 n q0 q1 q2 (v3 + 6) h111
        else
          none
      else if (x12 &&& (31 : Int32)) = 5 then
        (rdI h q0 10 (v3 + (1 : Int32))).bind fun x117 =>
        (rdI h q0 10 (v3 + (2 : Int32))).bind fun x119 =>
        (rdI h q0 10 (v3 + (3 : Int32))).bind fun x121 =>
        (rdI h q0 10 (v3 + (4 : Int32))).bind fun x123 =>
        (rc h q1 7).bind fun g127 =>
        b1 (f_X8_pay g127 x117 x119 x121 x123 h) fun x129 h125 =>
        (rdI h125 q0 10 (v3 + (1 : Int32))).bind fun x130 =>
        (rdI h125 q0 10 (v3 + (2 : Int32))).bind fun x132 =>
        (rdI h125 q0 10 (v3 + (3 : Int32))).bind fun x134 =>
        (rdI h125 q0 10 (v3 + (4 : Int32))).bind fun x136 =>
        (rc h125 q2 8).bind fun g140 =>
        b1 (f_X9_pay g140 x130 x132 x134 x136 h125) fun x142 h138 =>
        if x129 = x142 then
          f_L_law_L18 n q0 q1 q2 (v3 + 6) h138
        else
          none
      else if (x12 &&& (31 : Int32)) = 6 then
        (rdI h q0 10 (v3 + (1 : Int32))).bind fun x144 =>
        (rdI h q0 10 (v3 + (2 : Int32))).bind fun x146 =>
        (rc h q1 7).bind fun g150 =>
        b1 (f_X8_lost g150 x144 x146 h) fun x152 h148 =>
        (rdI h148 q0 10 (v3 + (1 : Int32))).bind fun x153 =>
        (rdI h148 q0 10 (v3 + (2 : Int32))).bind fun x155 =>
        (rc h148 q2 8).bind fun g159 =>
        b1 (f_X9_lost g159 x153 x155 h148) fun x161 h157 =>
        if x152 = x161 then
          f_L_law_L18 n q0 q1 q2 (v3 + 6) h157
        else
          none
      else if (x12 &&& (31 : Int32)) = 7 then
        (rdI h q0 10 (v3 + (1 : Int32))).bind fun x163 =>
        (rdI h q0 10 (v3 + (2 : Int32))).bind fun x165 =>
        (rdI h q0 10 (v3 + (3 : Int32))).bind fun x167 =>
        (rdI h q0 10 (v3 + (4 : Int32))).bind fun x169 =>
        (rc h q1 7).bind fun g173 =>
        b1 (f_X8_bank g173 x163 x165 x167 x169 h) fun x175 h171 =>
        (rdI h171 q0 10 (v3 + (1 : Int32))).bind fun x176 =>
        (rdI h171 q0 10 (v3 + (2 : Int32))).bind fun x178 =>
        (rdI h171 q0 10 (v3 + (3 : Int32))).bind fun x180 =>
        (rdI h171 q0 10 (v3 + (4 : Int32))).bind fun x182 =>
        (rc h171 q2 8).bind fun g186 =>
        b1 (f_X9_bank g186 x176 x178 x180 x182 h171) fun x188 h184 =>
        if x175 = x188 then
          f_L_law_L18 n q0 q1 q2 (v3 + 6) h184
        else
          none
      else if (x12 &&& (31 : Int32)) = 8 then
        (rdI h q0 10 (v3 + (1 : Int32))).bind fun x190 =>
        (rdI h q0 10 (v3 + (2 : Int32))).bind fun x192 =>
        (rdI h q0 10 (v3 + (3 : Int32))).bind fun x194 =>
        (rdI h q0 10 (v3 + (4 : Int32))).bind fun x196 =>
        (rc h q1 7).bind fun g200 =>
        b1 (f_X8_holiday g200 x190 x192 x194 x196 h) fun x202 h198 =>
        (rdI h198 q0 10 (v3 + (1 : Int32))).bind fun x203 =>
        (rdI h198 q0 10 (v3 + (2 : Int32))).bind fun x205 =>
        (rdI h198 q0 10 (v3 + (3 : Int32))).bind fun x207 =>
        (rdI h198 q0 10 (v3 + (4 : Int32))).bind fun x209 =>
        (rc h198 q2 8).bind fun g213 =>
        b1 (f_X9_holiday g213 x203 x205 x207 x209 h198) fun x215 h211 =>
        if x202 = x215 then
          f_L_law_L18 n q0 q1 q2 (v3 + 6) h211
        else
          none
      else if (x12 &&& (31 : Int32)) = 9 then
        (rdI h q0 10 (v3 + (1 : Int32))).bind fun x217 =>
        (rdI h q0 10 (v3 + (2 : Int32))).bind fun x219 =>
        (rdI h q0 10 (v3 + (3 : Int32))).bind fun x221 =>
        (rc h q1 7).bind fun g225 =>
        b1 (f_X8_settle g225 x217 x219 x221 h) fun x227 h223 =>
        (rdI h223 q0 10 (v3 + (1 : Int32))).bind fun x228 =>
        (rdI h223 q0 10 (v3 + (2 : Int32))).bind fun x230 =>
        (rdI h223 q0 10 (v3 + (3 : Int32))).bind fun x232 =>
        (rc h223 q2 8).bind fun g236 =>
        b1 (f_X9_settle g236 x228 x230 x232 h223) fun x238 h234 =>
        if x227 = x238 then
          f_L_law_L18 n q0 q1 q2 (v3 + 6) h234
        else
          none
      else if (x12 &&& (31 : Int32)) = 10 then
        (rdI h q0 10 (v3 + (1 : Int32))).bind fun x240 =>
        (rdI h q0 10 (v3 + (2 : Int32))).bind fun x242 =>
        (rc h q1 7).bind fun g246 =>
        b1 (f_X8_claim g246 x240 x242 h) fun x248 h244 =>
        (rdI h244 q0 10 (v3 + (1 : Int32))).bind fun x249 =>
        (rdI h244 q0 10 (v3 + (2 : Int32))).bind fun x251 =>
        (rc h244 q2 8).bind fun g255 =>
        b1 (f_X9_claim g255 x249 x251 h244) fun x257 h253 =>
        if x248 = x257 then
          f_L_law_L18 n q0 q1 q2 (v3 + 6) h253
        else
          none
      else if (x12 &&& (31 : Int32)) = 11 then
        (rdI h q0 10 (v3 + (1 : Int32))).bind fun x259 =>
        (rc h q1 7).bind fun g263 =>
        b1 (f_X8_untell g263 x259 h) fun x265 h261 =>
        (rdI h261 q0 10 (v3 + (1 : Int32))).bind fun x266 =>
        (rc h261 q2 8).bind fun g270 =>
        b1 (f_X9_untell g270 x266 h261) fun x272 h268 =>
        if x265 = x272 then
          f_L_law_L18 n q0 q1 q2 (v3 + 6) h268
        else
          none
      else if (x12 &&& (31 : Int32)) = 12 then
        (rdI h q0 10 (v3 + (1 : Int32))).bind fun x274 =>
        (rc h q1 7).bind fun g278 =>
        b1 (f_X8_later g278 x274 h) fun x280 h276 =>
        (rdI h276 q0 10 (v3 + (1 : Int32))).bind fun x281 =>
        (rc h276 q2 8).bind fun g285 =>
        b1 (f_X9_later g285 x281 h276) fun x287 h283 =>
        if x280 = x287 then
          f_L_law_L18 n q0 q1 q2 (v3 + 6) h283
        else
          none
      else if (x12 &&& (31 : Int32)) = 13 then
        (rdI h q0 10 (v3 + (1 : Int32))).bind fun x289 =>
        (rdI h q0 10 (v3 + (2 : Int32))).bind fun x291 =>
        (rdI h q0 10 (v3 + (3 : Int32))).bind fun x293 =>
        b1 ((if x293 = (0 : Int32) then
            some (0, h)
          else
            some (1, h) : Option (Int32 × Hp))) fun w296 h297 =>
        (rdI h297 q0 10 (v3 + (4 : Int32))).bind fun x299 =>
        (rc h297 q1 7).bind fun g303 =>
        b1 (f_X8_span g303 x289 x291 w296 x299 h297) fun x305 h301 =>
        (rdI h301 q0 10 (v3 + (1 : Int32))).bind fun x306 =>
        (rdI h301 q0 10 (v3 + (2 : Int32))).bind fun x308 =>
        (rdI h301 q0 10 (v3 + (3 : Int32))).bind fun x310 =>
        b1 ((if x310 = (0 : Int32) then
            some (0, h301)
          else
            some (1, h301) : Option (Int32 × Hp))) fun w313 h314 =>
        (rdI h314 q0 10 (v3 + (4 : Int32))).bind fun x316 =>
        (rc h314 q2 8).bind fun g320 =>
        b1 (f_X9_span g320 x306 x308 w313 x316 h314) fun x322 h318 =>
        if x305 = x322 then
          f_L_law_L18 n q0 q1 q2 (v3 + 6) h318
        else
          none
      else if (x12 &&& (31 : Int32)) = 14 then
        (rdI h q0 10 (v3 + (1 : Int32))).bind fun x324 =>
        (rdI h q0 10 (v3 + (2 : Int32))).bind fun x326 =>
        (rc h q1 7).bind fun g330 =>
        b1 (f_X8_quarrel g330 x324 x326 h) fun x332 h328 =>
        (rdI h328 q0 10 (v3 + (1 : Int32))).bind fun x333 =>
        (rdI h328 q0 10 (v3 + (2 : Int32))).bind fun x335 =>
        (rc h328 q2 8).bind fun g339 =>
        b1 (f_X9_quarrel g339 x333 x335 h328) fun x341 h337 =>
        if x332 = x341 then
          f_L_law_L18 n q0 q1 q2 (v3 + 6) h337
        else
          none
      else if (x12 &&& (31 : Int32)) = 15 then
        (rdI h q0 10 (v3 + (1 : Int32))).bind fun x343 =>
        (rdI h q0 10 (v3 + (2 : Int32))).bind fun x345 =>
        (rdI h q0 10 (v3 + (3 : Int32))).bind fun x347 =>
        (rdI h q0 10 (v3 + (4 : Int32))).bind fun x349 =>
        b1 ((if x349 = (0 : Int32) then
            some (0, h)
          else
            some (1, h) : Option (Int32 × Hp))) fun w352 h353 =>
        (rdI h353 q0 10 (v3 + (5 : Int32))).bind fun x355 =>
        (rc h353 q1 7).bind fun g359 =>
        b1 (f_X8_counted g359 x343 x345 x347 w352 x355 h353) fun x361 h357 =>
        (rdI h357 q0 10 (v3 + (1 : Int32))).bind fun x362 =>
        (rdI h357 q0 10 (v3 + (2 : Int32))).bind fun x364 =>
        (rdI h357 q0 10 (v3 + (3 : Int32))).bind fun x366 =>
        (rdI h357 q0 10 (v3 + (4 : Int32))).bind fun x368 =>
        b1 ((if x368 = (0 : Int32) then
            some (0, h357)
          else
            some (1, h357) : Option (Int32 × Hp))) fun w371 h372 =>
        (rdI h372 q0 10 (v3 + (5 : Int32))).bind fun x374 =>
        (rc h372 q2 8).bind fun g378 =>
        b1 (f_X9_counted g378 x362 x364 x366 w371 x374 h372) fun x380 h376 =>
        if x361 = x380 then
          f_L_law_L18 n q0 q1 q2 (v3 + 6) h376
        else
          none
      else if (x12 &&& (31 : Int32)) = 16 then
        (rdI h q0 10 (v3 + (1 : Int32))).bind fun x382 =>
        (rdI h q0 10 (v3 + (2 : Int32))).bind fun x384 =>
        (rdI h q0 10 (v3 + (3 : Int32))).bind fun x386 =>
        (rdI h q0 10 (v3 + (4 : Int32))).bind fun x388 =>
        b1 ((if x388 = (0 : Int32) then
            some (0, h)
          else
            some (1, h) : Option (Int32 × Hp))) fun w391 h392 =>
        (rdI h392 q0 10 (v3 + (5 : Int32))).bind fun x394 =>
        (rc h392 q1 7).bind fun g398 =>
        b1 (f_X8_empty g398 x382 x384 x386 w391 x394 h392) fun x400 h396 =>
        (rdI h396 q0 10 (v3 + (1 : Int32))).bind fun x401 =>
        (rdI h396 q0 10 (v3 + (2 : Int32))).bind fun x403 =>
        (rdI h396 q0 10 (v3 + (3 : Int32))).bind fun x405 =>
        (rdI h396 q0 10 (v3 + (4 : Int32))).bind fun x407 =>
        b1 ((if x407 = (0 : Int32) then
            some (0, h396)
          else
            some (1, h396) : Option (Int32 × Hp))) fun w410 h411 =>
        (rdI h411 q0 10 (v3 + (5 : Int32))).bind fun x413 =>
        (rc h411 q2 8).bind fun g417 =>
        b1 (f_X9_empty g417 x401 x403 x405 w410 x413 h411) fun x419 h415 =>
        if x400 = x419 then
          f_L_law_L18 n q0 q1 q2 (v3 + 6) h415
        else
          none
      else if (x12 &&& (31 : Int32)) = 17 then
        (rdI h q0 10 (v3 + (1 : Int32))).bind fun x421 =>
        (rdI h q0 10 (v3 + (2 : Int32))).bind fun x423 =>
        (rdI h q0 10 (v3 + (3 : Int32))).bind fun x425 =>
        b1 ((if x425 = (0 : Int32) then
            some (0, h)
          else
            some (1, h) : Option (Int32 × Hp))) fun w428 h429 =>
        (rdI h429 q0 10 (v3 + (4 : Int32))).bind fun x431 =>
        (rc h429 q1 7).bind fun g435 =>
        b1 (f_X8_average g435 x421 x423 w428 x431 h429) fun x437 h433 =>
        (rdI h433 q0 10 (v3 + (1 : Int32))).bind fun x438 =>
        (rdI h433 q0 10 (v3 + (2 : Int32))).bind fun x440 =>
        (rdI h433 q0 10 (v3 + (3 : Int32))).bind fun x442 =>
        b1 ((if x442 = (0 : Int32) then
            some (0, h433)
          else
            some (1, h433) : Option (Int32 × Hp))) fun w445 h446 =>
        (rdI h446 q0 10 (v3 + (4 : Int32))).bind fun x448 =>
        (rc h446 q2 8).bind fun g452 =>
        b1 (f_X9_average g452 x438 x440 w445 x448 h446) fun x454 h450 =>
        if x437 = x454 then
          f_L_law_L18 n q0 q1 q2 (v3 + 6) h450
        else
          none
      else if (x12 &&& (31 : Int32)) = 18 then
        (rdI h q0 10 (v3 + (1 : Int32))).bind fun x456 =>
        (rdI h q0 10 (v3 + (2 : Int32))).bind fun x458 =>
        (rdI h q0 10 (v3 + (3 : Int32))).bind fun x460 =>
        b1 ((if x460 = (0 : Int32) then
            some (0, h)
          else
            some (1, h) : Option (Int32 × Hp))) fun w463 h464 =>
        (rdI h464 q0 10 (v3 + (4 : Int32))).bind fun x466 =>
        (rc h464 q1 7).bind fun g470 =>
        b1 (f_X8_weeks g470 x456 x458 w463 x466 h464) fun x472 h468 =>
        (rdI h468 q0 10 (v3 + (1 : Int32))).bind fun x473 =>
        (rdI h468 q0 10 (v3 + (2 : Int32))).bind fun x475 =>
        (rdI h468 q0 10 (v3 + (3 : Int32))).bind fun x477 =>
        b1 ((if x477 = (0 : Int32) then
            some (0, h468)
          else
            some (1, h468) : Option (Int32 × Hp))) fun w480 h481 =>
        (rdI h481 q0 10 (v3 + (4 : Int32))).bind fun x483 =>
        (rc h481 q2 8).bind fun g487 =>
        b1 (f_X9_weeks g487 x473 x475 w480 x483 h481) fun x489 h485 =>
        if x472 = x489 then
          f_L_law_L18 n q0 q1 q2 (v3 + 6) h485
        else
          none
      else if (x12 &&& (31 : Int32)) = 19 then
        (rdI h q0 10 (v3 + (1 : Int32))).bind fun x491 =>
        (rdI h q0 10 (v3 + (2 : Int32))).bind fun x493 =>
        (rdI h q0 10 (v3 + (3 : Int32))).bind fun x495 =>
        b1 ((if x495 = (0 : Int32) then
            some (0, h)
          else
            some (1, h) : Option (Int32 × Hp))) fun w498 h499 =>
        (rdI h499 q0 10 (v3 + (4 : Int32))).bind fun x501 =>
        (rc h499 q1 7).bind fun g505 =>
        b1 (f_X8_owed g505 x491 x493 w498 x501 h499) fun x507 h503 =>
        (rdI h503 q0 10 (v3 + (1 : Int32))).bind fun x508 =>
        (rdI h503 q0 10 (v3 + (2 : Int32))).bind fun x510 =>
        (rdI h503 q0 10 (v3 + (3 : Int32))).bind fun x512 =>
        b1 ((if x512 = (0 : Int32) then
            some (0, h503)
          else
            some (1, h503) : Option (Int32 × Hp))) fun w515 h516 =>
        (rdI h516 q0 10 (v3 + (4 : Int32))).bind fun x518 =>
        (rc h516 q2 8).bind fun g522 =>
        b1 (f_X9_owed g522 x508 x510 w515 x518 h516) fun x524 h520 =>
        if x507 = x524 then
          f_L_law_L18 n q0 q1 q2 (v3 + 6) h520
        else
          none
      else if (x12 &&& (31 : Int32)) = 20 then
        (rdI h q0 10 (v3 + (1 : Int32))).bind fun x526 =>
        (rdI h q0 10 (v3 + (2 : Int32))).bind fun x528 =>
        (rdI h q0 10 (v3 + (3 : Int32))).bind fun x530 =>
        b1 ((if x530 = (0 : Int32) then
            some (0, h)
          else
            some (1, h) : Option (Int32 × Hp))) fun w533 h534 =>
        (rdI h534 q0 10 (v3 + (4 : Int32))).bind fun x536 =>
        (rc h534 q1 7).bind fun g540 =>
        b1 (f_X8_chain g540 x526 x528 w533 x536 h534) fun x542 h538 =>
        (rdI h538 q0 10 (v3 + (1 : Int32))).bind fun x543 =>
        (rdI h538 q0 10 (v3 + (2 : Int32))).bind fun x545 =>
        (rdI h538 q0 10 (v3 + (3 : Int32))).bind fun x547 =>
        b1 ((if x547 = (0 : Int32) then
            some (0, h538)
          else
            some (1, h538) : Option (Int32 × Hp))) fun w550 h551 =>
        (rdI h551 q0 10 (v3 + (4 : Int32))).bind fun x553 =>
        (rc h551 q2 8).bind fun g557 =>
        b1 (f_X9_chain g557 x543 x545 w550 x553 h551) fun x559 h555 =>
        if x542 = x559 then
          f_L_law_L18 n q0 q1 q2 (v3 + 6) h555
        else
          none
      else if (x12 &&& (31 : Int32)) = 21 then
        (rdI h q0 10 (v3 + (1 : Int32))).bind fun x561 =>
        (rdI h q0 10 (v3 + (2 : Int32))).bind fun x563 =>
        (rdI h q0 10 (v3 + (3 : Int32))).bind fun x565 =>
        (rdI h q0 10 (v3 + (4 : Int32))).bind fun x567 =>
        b1 ((if x567 = (0 : Int32) then
            some (0, h)
          else
            some (1, h) : Option (Int32 × Hp))) fun w570 h571 =>
        (rdI h571 q0 10 (v3 + (5 : Int32))).bind fun x573 =>
        (rc h571 q1 7).bind fun g577 =>
        b1 (f_X8_link g577 x561 x563 x565 w570 x573 h571) fun x579 h575 =>
        (rdI h575 q0 10 (v3 + (1 : Int32))).bind fun x580 =>
        (rdI h575 q0 10 (v3 + (2 : Int32))).bind fun x582 =>
        (rdI h575 q0 10 (v3 + (3 : Int32))).bind fun x584 =>
        (rdI h575 q0 10 (v3 + (4 : Int32))).bind fun x586 =>
        b1 ((if x586 = (0 : Int32) then
            some (0, h575)
          else
            some (1, h575) : Option (Int32 × Hp))) fun w589 h590 =>
        (rdI h590 q0 10 (v3 + (5 : Int32))).bind fun x592 =>
        (rc h590 q2 8).bind fun g596 =>
        b1 (f_X9_link g596 x580 x582 x584 w589 x592 h590) fun x598 h594 =>
        if x579 = x598 then
          f_L_law_L18 n q0 q1 q2 (v3 + 6) h594
        else
          none
      else if (x12 &&& (31 : Int32)) = 22 then
        (rdI h q0 10 (v3 + (1 : Int32))).bind fun x600 =>
        (rdI h q0 10 (v3 + (2 : Int32))).bind fun x602 =>
        (rdI h q0 10 (v3 + (3 : Int32))).bind fun x604 =>
        b1 ((if x604 = (0 : Int32) then
            some (0, h)
          else
            some (1, h) : Option (Int32 × Hp))) fun w607 h608 =>
        (rdI h608 q0 10 (v3 + (4 : Int32))).bind fun x610 =>
        (rc h608 q1 7).bind fun g614 =>
        b1 (f_X8_due g614 x600 x602 w607 x610 h608) fun x616 h612 =>
        (rdI h612 q0 10 (v3 + (1 : Int32))).bind fun x617 =>
        (rdI h612 q0 10 (v3 + (2 : Int32))).bind fun x619 =>
        (rdI h612 q0 10 (v3 + (3 : Int32))).bind fun x621 =>
        b1 ((if x621 = (0 : Int32) then
            some (0, h612)
          else
            some (1, h612) : Option (Int32 × Hp))) fun w624 h625 =>
        (rdI h625 q0 10 (v3 + (4 : Int32))).bind fun x627 =>
        (rc h625 q2 8).bind fun g631 =>
        b1 (f_X9_due g631 x617 x619 w624 x627 h625) fun x633 h629 =>
        if (lg_cmp x616 x633) = (0 : Int32) then
          f_L_law_L18 n q0 q1 q2 (v3 + 6) h629
        else
          none
      else if (x12 &&& (31 : Int32)) = 23 then
        (rdI h q0 10 (v3 + (1 : Int32))).bind fun x635 =>
        (rdI h q0 10 (v3 + (2 : Int32))).bind fun x637 =>
        (rdI h q0 10 (v3 + (3 : Int32))).bind fun x639 =>
        b1 ((if x639 = (0 : Int32) then
            some (0, h)
          else
            some (1, h) : Option (Int32 × Hp))) fun w642 h643 =>
        (rdI h643 q0 10 (v3 + (4 : Int32))).bind fun x645 =>
        (rc h643 q1 7).bind fun g649 =>
        b1 (f_X8_payout g649 x635 x637 w642 x645 h643) fun x651 h647 =>
        (rdI h647 q0 10 (v3 + (1 : Int32))).bind fun x652 =>
        (rdI h647 q0 10 (v3 + (2 : Int32))).bind fun x654 =>
        (rdI h647 q0 10 (v3 + (3 : Int32))).bind fun x656 =>
        b1 ((if x656 = (0 : Int32) then
            some (0, h647)
          else
            some (1, h647) : Option (Int32 × Hp))) fun w659 h660 =>
        (rdI h660 q0 10 (v3 + (4 : Int32))).bind fun x662 =>
        (rc h660 q2 8).bind fun g666 =>
        b1 (f_X9_payout g666 x652 x654 w659 x662 h660) fun x668 h664 =>
        if (lg_cmp x651 x668) = (0 : Int32) then
          f_L_law_L18 n q0 q1 q2 (v3 + 6) h664
        else
          none
      else if (x12 &&& (31 : Int32)) = 24 then
        (rdI h q0 10 (v3 + (1 : Int32))).bind fun x670 =>
        (rdI h q0 10 (v3 + (2 : Int32))).bind fun x672 =>
        (rdI h q0 10 (v3 + (3 : Int32))).bind fun x674 =>
        b1 ((if x674 = (0 : Int32) then
            some (0, h)
          else
            some (1, h) : Option (Int32 × Hp))) fun w677 h678 =>
        (rdI h678 q0 10 (v3 + (4 : Int32))).bind fun x680 =>
        (rc h678 q1 7).bind fun g684 =>
        b1 (f_X8_quarrels g684 x670 x672 w677 x680 h678) fun x686 h682 =>
        (rdI h682 q0 10 (v3 + (1 : Int32))).bind fun x687 =>
        (rdI h682 q0 10 (v3 + (2 : Int32))).bind fun x689 =>
        (rdI h682 q0 10 (v3 + (3 : Int32))).bind fun x691 =>
        b1 ((if x691 = (0 : Int32) then
            some (0, h682)
          else
            some (1, h682) : Option (Int32 × Hp))) fun w694 h695 =>
        (rdI h695 q0 10 (v3 + (4 : Int32))).bind fun x697 =>
        (rc h695 q2 8).bind fun g701 =>
        b1 (f_X9_quarrels g701 x687 x689 w694 x697 h695) fun x703 h699 =>
        if (lg_cmp x686 x703) = (0 : Int32) then
          f_L_law_L18 n q0 q1 q2 (v3 + 6) h699
        else
          none
      else if (x12 &&& (31 : Int32)) = 25 then
        (rdI h q0 10 (v3 + (1 : Int32))).bind fun x705 =>
        (rdI h q0 10 (v3 + (2 : Int32))).bind fun x707 =>
        (rdI h q0 10 (v3 + (3 : Int32))).bind fun x709 =>
        b1 ((if x709 = (0 : Int32) then
            some (0, h)
          else
            some (1, h) : Option (Int32 × Hp))) fun w712 h713 =>
        (rdI h713 q0 10 (v3 + (4 : Int32))).bind fun x715 =>
        (rc h713 q1 7).bind fun g719 =>
        b1 (f_X8_marks g719 x705 x707 w712 x715 h713) fun x721 h717 =>
        (rdI h717 q0 10 (v3 + (1 : Int32))).bind fun x722 =>
        (rdI h717 q0 10 (v3 + (2 : Int32))).bind fun x724 =>
        (rdI h717 q0 10 (v3 + (3 : Int32))).bind fun x726 =>
        b1 ((if x726 = (0 : Int32) then
            some (0, h717)
          else
            some (1, h717) : Option (Int32 × Hp))) fun w729 h730 =>
        (rdI h730 q0 10 (v3 + (4 : Int32))).bind fun x732 =>
        (rc h730 q2 8).bind fun g736 =>
        b1 (f_X9_marks g736 x722 x724 w729 x732 h730) fun x738 h734 =>
        if x721 = x738 then
          f_L_law_L18 n q0 q1 q2 (v3 + 6) h734
        else
          none
      else if (x12 &&& (31 : Int32)) = 26 then
        (rdI h q0 10 (v3 + (1 : Int32))).bind fun x740 =>
        (rdI h q0 10 (v3 + (2 : Int32))).bind fun x742 =>
        (rdI h q0 10 (v3 + (3 : Int32))).bind fun x744 =>
        b1 ((if x744 = (0 : Int32) then
            some (0, h)
          else
            some (1, h) : Option (Int32 × Hp))) fun w747 h748 =>
        (rdI h748 q0 10 (v3 + (4 : Int32))).bind fun x750 =>
        (rc h748 q1 7).bind fun g754 =>
        b1 (f_X8_tests g754 x740 x742 w747 x750 h748) fun x756 h752 =>
        (rdI h752 q0 10 (v3 + (1 : Int32))).bind fun x757 =>
        (rdI h752 q0 10 (v3 + (2 : Int32))).bind fun x759 =>
        (rdI h752 q0 10 (v3 + (3 : Int32))).bind fun x761 =>
        b1 ((if x761 = (0 : Int32) then
            some (0, h752)
          else
            some (1, h752) : Option (Int32 × Hp))) fun w764 h765 =>
        (rdI h765 q0 10 (v3 + (4 : Int32))).bind fun x767 =>
        (rc h765 q2 8).bind fun g771 =>
        b1 (f_X9_tests g771 x757 x759 w764 x767 h765) fun x773 h769 =>
        if x756 = x773 then
          f_L_law_L18 n q0 q1 q2 (v3 + 6) h769
        else
          none
      else if (x12 &&& (31 : Int32)) = 27 then
        (rdI h q0 10 (v3 + (1 : Int32))).bind fun x775 =>
        (rdI h q0 10 (v3 + (2 : Int32))).bind fun x777 =>
        (rdI h q0 10 (v3 + (3 : Int32))).bind fun x779 =>
        b1 ((if x779 = (0 : Int32) then
            some (0, h)
          else
            some (1, h) : Option (Int32 × Hp))) fun w782 h783 =>
        (rdI h783 q0 10 (v3 + (4 : Int32))).bind fun x785 =>
        (rc h783 q1 7).bind fun g789 =>
        b1 (f_X8_settles g789 x775 x777 w782 x785 h783) fun x791 h787 =>
        (rdI h787 q0 10 (v3 + (1 : Int32))).bind fun x792 =>
        (rdI h787 q0 10 (v3 + (2 : Int32))).bind fun x794 =>
        (rdI h787 q0 10 (v3 + (3 : Int32))).bind fun x796 =>
        b1 ((if x796 = (0 : Int32) then
            some (0, h787)
          else
            some (1, h787) : Option (Int32 × Hp))) fun w799 h800 =>
        (rdI h800 q0 10 (v3 + (4 : Int32))).bind fun x802 =>
        (rc h800 q2 8).bind fun g806 =>
        b1 (f_X9_settles g806 x792 x794 w799 x802 h800) fun x808 h804 =>
        if (lg_cmp x791 x808) = (0 : Int32) then
          f_L_law_L18 n q0 q1 q2 (v3 + 6) h804
        else
          none
      else if (x12 &&& (31 : Int32)) = 28 then
        (rdI h q0 10 (v3 + (1 : Int32))).bind fun x810 =>
        (rc h q1 7).bind fun g814 =>
        b1 (f_X8_about g814 x810 h) fun x816 h812 =>
        (rdI h812 q0 10 (v3 + (1 : Int32))).bind fun x817 =>
        (rc h812 q2 8).bind fun g821 =>
        b1 (f_X9_about g821 x817 h812) fun x823 h819 =>
        if x816 = x823 then
          f_L_law_L18 n q0 q1 q2 (v3 + 6) h819
        else
          none
      else none
def f_L_law (q0 : Option Nat) (h : Hp) : Option (Int32 × Hp) :=
  (rc (nw h 7 0) (some h.1.length) 7).bind fun g3 =>
  (f_X8_init g3 (nw h 7 0)).bind fun h1 =>
  (rc (nw h1 8 0) (some h1.1.length) 8).bind fun g7 =>
  (f_X9_init g7 (nw h1 8 0)).bind fun h5 =>
  (f_L_law_L18 513 q0 (some h.1.length) (some h1.1.length) 0 h5).bind fun h826 =>
  some (1, h826)
set_option maxHeartbeats 4000000 in
theorem tl_L_law_18 (E : En) (d : Nat) {K : Option Vv → Hp → Prop} : ∀ (n : Nat) (q0 : Option Nat) (q1 : Option Nat) (q2 : Option Nat) (v3 : Int32) (h : Hp) (hz : Hp), f_L_law_L18 n q0 q1 q2 v3 h = some hz → MW E m_L_law (d + 206) 0 0 1721 [none, none, none, none] [] hz K → MW E m_L_law (d + 206) (28 * n) (10859 * n) 18 [some (vq q0), some (vq q1), some (vq q2), some (vi v3)] [] h K := by
  intro n
  induction n with
  | zero => intro q0 q1 q2 v3 h hz hf; exact nomatch (show none = some _ from hf)
  | succ n ih =>
    intro q0 q1 q2 v3 h hz hf hX1721
    rw [f_L_law_L18] at hf
    refine MW.more (mc' := 28 * n + 28) (ms' := 10859 * n + 10859) (Nat.le_refl _) (by omega) (by omega) ?_
    refine mw_iload_n (x := v3) dL_law_18 rfl ?_
    refine mw_aload_n (x := q0) dL_law_19 rfl ?_
    obtain ⟨x9, e10, hf⟩ := ob hf
    refine ml_alen dL_law_20 e10 (by decide) (by decide) ?_
    refine mw_bipush (v := 6) dL_law_21 (by decide) ?_
    refine mw_isub dL_law_23 ?_
    refine mw_icmp_gt (tgt := 1721) dL_law_24 rfl (fun c11 => ?_) (fun c11 => ?_)
    · rw [if_pos c11] at hf
      obtain rfl := y0 hf
      exact MW.sub (subL_n (subL_n (subL_n (subL_n subL_nil)))) (MW.more (Nat.le_refl _) (Nat.zero_le _) (Nat.zero_le _) hX1721)
    · rw [if_neg c11] at hf
      refine mw_aload_n (x := q0) dL_law_27 rfl ?_
      refine mw_iload_n (x := v3) dL_law_28 rfl ?_
      obtain ⟨x12, e13, hf⟩ := ob hf
      refine ml_iald dL_law_29 e13 ?_
      refine mw_bipush (v := 31) dL_law_30 (by decide) ?_
      refine mw_iand dL_law_32 ?_
      by_cases c825 : (x12 &&& (31 : Int32)).toInt < 0 ∨ 28 < (x12 &&& (31 : Int32)).toInt
      · rw [if_pos c825] at hf
        refine mw_tableOut (tgt := 1715) dL_law_33 c825 rfl ?_
        refine mw_iinc (x := v3) (v := v3 + 6) dL_law_1715 rfl rfl (by decide) rfl ?_
        refine mw_goto (tgt := 18) dL_law_1718 rfl ?_
        exact MW.sub (subL_s (subL_s (subL_s (subL_s subL_nil)))) (MW.more (Nat.le_refl _) (by omega) (by omega) (ih _ _ _ _ _ _ hf hX1721))
      rw [if_neg c825] at hf
      by_cases c825 : (x12 &&& (31 : Int32)) = 0
      · rw [if_pos c825] at hf
        refine ml_tableIn (v := 0) (tgt := 164) dL_law_33 c825 (by decide) (by decide) rfl rfl ?_
        refine mw_aload_n (x := q1) dL_law_164 rfl ?_
        refine mw_aload_n (x := q0) dL_law_165 rfl ?_
        refine mw_iload_n (x := v3) dL_law_166 rfl ?_
        refine mw_iconst (v := 1) dL_law_167 (by decide) ?_
        refine mw_iadd dL_law_168 ?_
        obtain ⟨x14, e15, hf⟩ := ob hf
        refine ml_iald dL_law_169 e15 ?_
        refine mw_aload_n (x := q0) dL_law_170 rfl ?_
        refine mw_iload_n (x := v3) dL_law_171 rfl ?_
        refine mw_iconst (v := 2) dL_law_172 (by decide) ?_
        refine mw_iadd dL_law_173 ?_
        obtain ⟨x16, e17, hf⟩ := ob hf
        refine ml_iald dL_law_174 e17 ?_
        refine mw_aload_n (x := q0) dL_law_175 rfl ?_
        refine mw_iload_n (x := v3) dL_law_176 rfl ?_
        refine mw_iconst (v := 3) dL_law_177 (by decide) ?_
        refine mw_iadd dL_law_178 ?_
        obtain ⟨x18, e19, hf⟩ := ob hf
        refine ml_iald dL_law_179 e19 ?_
        refine mw_aload_n (x := q0) dL_law_180 rfl ?_
        refine mw_iload_n (x := v3) dL_law_181 rfl ?_
        refine mw_iconst (v := 4) dL_law_182 (by decide) ?_
        refine mw_iadd dL_law_183 ?_
        obtain ⟨x20, e21, hf⟩ := ob hf
        refine ml_iald dL_law_184 e21 ?_
        refine mw_aload_n (x := q0) dL_law_185 rfl ?_
        refine mw_iload_n (x := v3) dL_law_186 rfl ?_
        refine mw_iconst (v := 5) dL_law_187 (by decide) ?_
        refine mw_iadd dL_law_188 ?_
        obtain ⟨x22, e23, hf⟩ := ob hf
        refine ml_iald dL_law_189 e23 ?_
        obtain ⟨g26, e27, hf⟩ := ob hf
        obtain ⟨x28, h24, e25, hf⟩ := ob1 hf
        refine ml_callV (ci := 7) (mc := 28 * n + 28) (ms := 10859 * n + 10859) (mc' := 0) (ms' := 0) [vi x14, vi x16, vi x18, vi x20, vi x22] dL_law_190 mk_X8_feed lk_RL_13 im_X8_feed se_X8_feed (by decide) e27 rfl (Nat.le_of_ble_eq_true rfl) (Nat.le_of_ble_eq_true rfl) (t_X8_feed E _ e25 isR_rfl) ?_
        refine mw_aload_n (x := q2) dL_law_193 rfl ?_
        refine mw_aload_n (x := q0) dL_law_194 rfl ?_
        refine mw_iload_n (x := v3) dL_law_195 rfl ?_
        refine mw_iconst (v := 1) dL_law_196 (by decide) ?_
        refine mw_iadd dL_law_197 ?_
        obtain ⟨x29, e30, hf⟩ := ob hf
        refine ml_iald dL_law_198 e30 ?_
        refine mw_aload_n (x := q0) dL_law_199 rfl ?_
        refine mw_iload_n (x := v3) dL_law_200 rfl ?_
        refine mw_iconst (v := 2) dL_law_201 (by decide) ?_
        refine mw_iadd dL_law_202 ?_
        obtain ⟨x31, e32, hf⟩ := ob hf
        refine ml_iald dL_law_203 e32 ?_
        refine mw_aload_n (x := q0) dL_law_204 rfl ?_
        refine mw_iload_n (x := v3) dL_law_205 rfl ?_
        refine mw_iconst (v := 3) dL_law_206 (by decide) ?_
        refine mw_iadd dL_law_207 ?_
        obtain ⟨x33, e34, hf⟩ := ob hf
        refine ml_iald dL_law_208 e34 ?_
        refine mw_aload_n (x := q0) dL_law_209 rfl ?_
        refine mw_iload_n (x := v3) dL_law_210 rfl ?_
        refine mw_iconst (v := 4) dL_law_211 (by decide) ?_
        refine mw_iadd dL_law_212 ?_
        obtain ⟨x35, e36, hf⟩ := ob hf
        refine ml_iald dL_law_213 e36 ?_
        refine mw_aload_n (x := q0) dL_law_214 rfl ?_
        refine mw_iload_n (x := v3) dL_law_215 rfl ?_
        refine mw_iconst (v := 5) dL_law_216 (by decide) ?_
        refine mw_iadd dL_law_217 ?_
        obtain ⟨x37, e38, hf⟩ := ob hf
        refine ml_iald dL_law_218 e38 ?_
        obtain ⟨g41, e42, hf⟩ := ob hf
        obtain ⟨x43, h39, e40, hf⟩ := ob1 hf
        refine ml_callV (ci := 8) (mc := 28 * n + 28) (ms := 10859 * n + 10859) (mc' := 0) (ms' := 0) [vi x29, vi x31, vi x33, vi x35, vi x37] dL_law_219 mk_X9_feed lk_RL_17 im_X9_feed se_X9_feed (by decide) e42 rfl (Nat.le_of_ble_eq_true rfl) (Nat.le_of_ble_eq_true rfl) (t_X9_feed E _ e40 isR_rfl) ?_
        refine mw_icmp_eq (tgt := 1715) dL_law_222 rfl (fun c44 => ?_) (fun c44 => ?_)
        · rw [if_pos c44] at hf
          refine mw_iinc (x := v3) (v := v3 + 6) dL_law_1715 rfl rfl (by decide) rfl ?_
          refine mw_goto (tgt := 18) dL_law_1718 rfl ?_
          exact MW.sub (subL_s (subL_s (subL_s (subL_s subL_nil)))) (MW.more (Nat.le_refl _) (by omega) (by omega) (ih _ _ _ _ _ _ hf hX1721))
        · rw [if_neg c44] at hf
          cases hf
      rw [if_neg c825] at hf
      by_cases c825 : (x12 &&& (31 : Int32)) = 1
      · rw [if_pos c825] at hf
        refine ml_tableIn (v := 1) (tgt := 227) dL_law_33 c825 (by decide) (by decide) rfl rfl ?_
        refine mw_aload_n (x := q1) dL_law_227 rfl ?_
        refine mw_aload_n (x := q0) dL_law_228 rfl ?_
        refine mw_iload_n (x := v3) dL_law_229 rfl ?_
        refine mw_iconst (v := 1) dL_law_230 (by decide) ?_
        refine mw_iadd dL_law_231 ?_
        obtain ⟨x45, e46, hf⟩ := ob hf
        refine ml_iald dL_law_232 e46 ?_
        obtain ⟨g49, e50, hf⟩ := ob hf
        obtain ⟨x51, h47, e48, hf⟩ := ob1 hf
        refine ml_callV (ci := 7) (mc := 28 * n + 28) (ms := 10859 * n + 10859) (mc' := 0) (ms' := 0) [vi x45] dL_law_233 mk_X8_end lk_RL_18 im_X8_end se_X8_end (by decide) e50 rfl (Nat.le_of_ble_eq_true rfl) (Nat.le_of_ble_eq_true rfl) (t_X8_end E _ e48 isR_rfl) ?_
        refine mw_aload_n (x := q2) dL_law_236 rfl ?_
        refine mw_aload_n (x := q0) dL_law_237 rfl ?_
        refine mw_iload_n (x := v3) dL_law_238 rfl ?_
        refine mw_iconst (v := 1) dL_law_239 (by decide) ?_
        refine mw_iadd dL_law_240 ?_
        obtain ⟨x52, e53, hf⟩ := ob hf
        refine ml_iald dL_law_241 e53 ?_
        obtain ⟨g56, e57, hf⟩ := ob hf
        obtain ⟨x58, h54, e55, hf⟩ := ob1 hf
        refine ml_callV (ci := 8) (mc := 28 * n + 28) (ms := 10859 * n + 10859) (mc' := 0) (ms' := 0) [vi x52] dL_law_242 mk_X9_end lk_RL_22 im_X9_end se_X9_end (by decide) e57 rfl (Nat.le_of_ble_eq_true rfl) (Nat.le_of_ble_eq_true rfl) (t_X9_end E _ e55 isR_rfl) ?_
        refine mw_icmp_eq (tgt := 1715) dL_law_245 rfl (fun c59 => ?_) (fun c59 => ?_)
        · rw [if_pos c59] at hf
          refine mw_iinc (x := v3) (v := v3 + 6) dL_law_1715 rfl rfl (by decide) rfl ?_
          refine mw_goto (tgt := 18) dL_law_1718 rfl ?_
          exact MW.sub (subL_s (subL_s (subL_s (subL_s subL_nil)))) (MW.more (Nat.le_refl _) (by omega) (by omega) (ih _ _ _ _ _ _ hf hX1721))
        · rw [if_neg c59] at hf
          cases hf
      rw [if_neg c825] at hf
      by_cases c825 : (x12 &&& (31 : Int32)) = 2
      · rw [if_pos c825] at hf
        refine ml_tableIn (v := 2) (tgt := 250) dL_law_33 c825 (by decide) (by decide) rfl rfl ?_
        refine mw_aload_n (x := q1) dL_law_250 rfl ?_
        refine mw_aload_n (x := q0) dL_law_251 rfl ?_
        refine mw_iload_n (x := v3) dL_law_252 rfl ?_
        refine mw_iconst (v := 1) dL_law_253 (by decide) ?_
        refine mw_iadd dL_law_254 ?_
        obtain ⟨x60, e61, hf⟩ := ob hf
        refine ml_iald dL_law_255 e61 ?_
        obtain ⟨g64, e65, hf⟩ := ob hf
        obtain ⟨x66, h62, e63, hf⟩ := ob1 hf
        refine ml_callV (ci := 7) (mc := 28 * n + 0) (ms := 10859 * n + 0) (mc' := 28) (ms' := 10859) [vi x60] dL_law_256 mk_X8_act lk_RL_23 im_X8_act se_X8_act (by decide) e65 rfl (Nat.le_of_ble_eq_true rfl) (Nat.le_of_ble_eq_true rfl) (t_X8_act E _ e63 isR_rfl) ?_
        refine mw_aload_n (x := q2) dL_law_259 rfl ?_
        refine mw_aload_n (x := q0) dL_law_260 rfl ?_
        refine mw_iload_n (x := v3) dL_law_261 rfl ?_
        refine mw_iconst (v := 1) dL_law_262 (by decide) ?_
        refine mw_iadd dL_law_263 ?_
        obtain ⟨x67, e68, hf⟩ := ob hf
        refine ml_iald dL_law_264 e68 ?_
        obtain ⟨g71, e72, hf⟩ := ob hf
        obtain ⟨x73, h69, e70, hf⟩ := ob1 hf
        refine ml_callV (ci := 8) (mc := 28 * n + 0) (ms := 10859 * n + 0) (mc' := 0) (ms' := 0) [vi x67] dL_law_265 mk_X9_act lk_RL_26 im_X9_act se_X9_act (by decide) e72 rfl (Nat.le_of_ble_eq_true rfl) (Nat.le_of_ble_eq_true rfl) (t_X9_act E _ e70 isR_rfl) ?_
        refine mw_icmp_eq (tgt := 1715) dL_law_268 rfl (fun c74 => ?_) (fun c74 => ?_)
        · rw [if_pos c74] at hf
          refine mw_iinc (x := v3) (v := v3 + 6) dL_law_1715 rfl rfl (by decide) rfl ?_
          refine mw_goto (tgt := 18) dL_law_1718 rfl ?_
          exact MW.sub (subL_s (subL_s (subL_s (subL_s subL_nil)))) (MW.more (Nat.le_refl _) (by omega) (by omega) (ih _ _ _ _ _ _ hf hX1721))
        · rw [if_neg c74] at hf
          cases hf
      rw [if_neg c825] at hf
      by_cases c825 : (x12 &&& (31 : Int32)) = 3
      · rw [if_pos c825] at hf
        refine ml_tableIn (v := 3) (tgt := 273) dL_law_33 c825 (by decide) (by decide) rfl rfl ?_
        refine mw_aload_n (x := q1) dL_law_273 rfl ?_
        refine mw_aload_n (x := q0) dL_law_274 rfl ?_
        refine mw_iload_n (x := v3) dL_law_275 rfl ?_
        refine mw_iconst (v := 1) dL_law_276 (by decide) ?_
        refine mw_iadd dL_law_277 ?_
        obtain ⟨x75, e76, hf⟩ := ob hf
        refine ml_iald dL_law_278 e76 ?_
        obtain ⟨g79, e80, hf⟩ := ob hf
        obtain ⟨x81, h77, e78, hf⟩ := ob1 hf
        refine ml_callV (ci := 7) (mc := 28 * n + 28) (ms := 10859 * n + 10859) (mc' := 0) (ms' := 0) [vi x75] dL_law_279 mk_X8_fault lk_RL_27 im_X8_fault se_X8_fault (by decide) e80 rfl (Nat.le_of_ble_eq_true rfl) (Nat.le_of_ble_eq_true rfl) (t_X8_fault E _ e78 isR_rfl) ?_
        refine mw_aload_n (x := q2) dL_law_282 rfl ?_
        refine mw_aload_n (x := q0) dL_law_283 rfl ?_
        refine mw_iload_n (x := v3) dL_law_284 rfl ?_
        refine mw_iconst (v := 1) dL_law_285 (by decide) ?_
        refine mw_iadd dL_law_286 ?_
        obtain ⟨x82, e83, hf⟩ := ob hf
        refine ml_iald dL_law_287 e83 ?_
        obtain ⟨g86, e87, hf⟩ := ob hf
        obtain ⟨x88, h84, e85, hf⟩ := ob1 hf
        refine ml_callV (ci := 8) (mc := 28 * n + 28) (ms := 10859 * n + 10859) (mc' := 0) (ms' := 0) [vi x82] dL_law_288 mk_X9_fault lk_RL_30 im_X9_fault se_X9_fault (by decide) e87 rfl (Nat.le_of_ble_eq_true rfl) (Nat.le_of_ble_eq_true rfl) (t_X9_fault E _ e85 isR_rfl) ?_
        refine mw_icmp_eq (tgt := 1715) dL_law_291 rfl (fun c89 => ?_) (fun c89 => ?_)
        · rw [if_pos c89] at hf
          refine mw_iinc (x := v3) (v := v3 + 6) dL_law_1715 rfl rfl (by decide) rfl ?_
          refine mw_goto (tgt := 18) dL_law_1718 rfl ?_
          exact MW.sub (subL_s (subL_s (subL_s (subL_s subL_nil)))) (MW.more (Nat.le_refl _) (by omega) (by omega) (ih _ _ _ _ _ _ hf hX1721))
        · rw [if_neg c89] at hf
          cases hf
      rw [if_neg c825] at hf
      by_cases c825 : (x12 &&& (31 : Int32)) = 4
      · rw [if_pos c825] at hf
        refine ml_tableIn (v := 4) (tgt := 296) dL_law_33 c825 (by decide) (by decide) rfl rfl ?_
        refine mw_aload_n (x := q1) dL_law_296 rfl ?_
        refine mw_aload_n (x := q0) dL_law_297 rfl ?_
        refine mw_iload_n (x := v3) dL_law_298 rfl ?_
        refine mw_iconst (v := 1) dL_law_299 (by decide) ?_
        refine mw_iadd dL_law_300 ?_
        obtain ⟨x90, e91, hf⟩ := ob hf
        refine ml_iald dL_law_301 e91 ?_
        refine mw_aload_n (x := q0) dL_law_302 rfl ?_
        refine mw_iload_n (x := v3) dL_law_303 rfl ?_
        refine mw_iconst (v := 2) dL_law_304 (by decide) ?_
        refine mw_iadd dL_law_305 ?_
        obtain ⟨x92, e93, hf⟩ := ob hf
        refine ml_iald dL_law_306 e93 ?_
        obtain ⟨w95, h96, r97, hf⟩ := ob1 hf
        have J829 : MW E m_L_law (d + 206) (28 * n + 28) (10859 * n + 10859) 315 [some (vq q0), some (vq q1), some (vq q2), some (vi v3)] [vi w95, vi x90, vq q1] h96 K := by
          obtain ⟨g100, e101, hf⟩ := ob hf
          obtain ⟨x102, h98, e99, hf⟩ := ob1 hf
          refine ml_callV (ci := 7) (mc := 28 * n + 23) (ms := 10859 * n + 9911) (mc' := 5) (ms' := 948) [vi x90, vi w95] dL_law_315 mk_X8_worker lk_RL_31 im_X8_worker se_X8_worker (by decide) e101 rfl (Nat.le_of_ble_eq_true rfl) (Nat.le_of_ble_eq_true rfl) (t_X8_worker E _ e99 isR_rfl) ?_
          refine mw_aload_n (x := q2) dL_law_318 rfl ?_
          refine mw_aload_n (x := q0) dL_law_319 rfl ?_
          refine mw_iload_n (x := v3) dL_law_320 rfl ?_
          refine mw_iconst (v := 1) dL_law_321 (by decide) ?_
          refine mw_iadd dL_law_322 ?_
          obtain ⟨x103, e104, hf⟩ := ob hf
          refine ml_iald dL_law_323 e104 ?_
          refine mw_aload_n (x := q0) dL_law_324 rfl ?_
          refine mw_iload_n (x := v3) dL_law_325 rfl ?_
          refine mw_iconst (v := 2) dL_law_326 (by decide) ?_
          refine mw_iadd dL_law_327 ?_
          obtain ⟨x105, e106, hf⟩ := ob hf
          refine ml_iald dL_law_328 e106 ?_
          obtain ⟨w108, h109, r110, hf⟩ := ob1 hf
          have J830 : MW E m_L_law (d + 206) (28 * n + 23) (10859 * n + 9911) 337 [some (vq q0), some (vq q1), some (vq q2), some (vi v3)] [vi w108, vi x103, vq q2, vi x102] h109 K := by
            obtain ⟨g113, e114, hf⟩ := ob hf
            obtain ⟨x115, h111, e112, hf⟩ := ob1 hf
            refine ml_callV (ci := 8) (mc := 28 * n + 23) (ms := 10859 * n + 9911) (mc' := 0) (ms' := 0) [vi x103, vi w108] dL_law_337 mk_X9_worker lk_RL_35 im_X9_worker se_X9_worker (by decide) e114 rfl (Nat.le_of_ble_eq_true rfl) (Nat.le_of_ble_eq_true rfl) (t_X9_worker E _ e112 isR_rfl) ?_
            refine mw_icmp_eq (tgt := 1715) dL_law_340 rfl (fun c116 => ?_) (fun c116 => ?_)
            · rw [if_pos c116] at hf
              refine mw_iinc (x := v3) (v := v3 + 6) dL_law_1715 rfl rfl (by decide) rfl ?_
              refine mw_goto (tgt := 18) dL_law_1718 rfl ?_
              exact MW.sub (subL_s (subL_s (subL_s (subL_s subL_nil)))) (MW.more (Nat.le_refl _) (by omega) (by omega) (ih _ _ _ _ _ _ hf hX1721))
            · rw [if_neg c116] at hf
              cases hf
          refine mw_if_eq (tgt := 336) dL_law_329 rfl (fun c107 => ?_) (fun c107 => ?_)
          · rw [if_pos c107] at r110
            refine mw_iconst (v := 0) dL_law_336 (by decide) ?_
            obtain ⟨rfl, rfl⟩ := y1 r110
            exact MW.sub (subL_s (subL_s (subL_s (subL_s subL_nil)))) (MW.more (Nat.le_refl _) (Nat.le_refl _) (Nat.le_refl _) J830)
          · rw [if_neg c107] at r110
            refine mw_iconst (v := 1) dL_law_332 (by decide) ?_
            refine mw_goto (tgt := 337) dL_law_333 rfl ?_
            obtain ⟨rfl, rfl⟩ := y1 r110
            exact MW.sub (subL_s (subL_s (subL_s (subL_s subL_nil)))) (MW.more (Nat.le_refl _) (Nat.le_refl _) (Nat.le_refl _) J830)
        refine mw_if_eq (tgt := 314) dL_law_307 rfl (fun c94 => ?_) (fun c94 => ?_)
        · rw [if_pos c94] at r97
          refine mw_iconst (v := 0) dL_law_314 (by decide) ?_
          obtain ⟨rfl, rfl⟩ := y1 r97
          exact MW.sub (subL_s (subL_s (subL_s (subL_s subL_nil)))) (MW.more (Nat.le_refl _) (Nat.le_refl _) (Nat.le_refl _) J829)
        · rw [if_neg c94] at r97
          refine mw_iconst (v := 1) dL_law_310 (by decide) ?_
          refine mw_goto (tgt := 315) dL_law_311 rfl ?_
          obtain ⟨rfl, rfl⟩ := y1 r97
          exact MW.sub (subL_s (subL_s (subL_s (subL_s subL_nil)))) (MW.more (Nat.le_refl _) (Nat.le_refl _) (Nat.le_refl _) J829)
      rw [if_neg c825] at hf
      by_cases c825 : (x12 &&& (31 : Int32)) = 5
      · rw [if_pos c825] at hf
        refine ml_tableIn (v := 5) (tgt := 345) dL_law_33 c825 (by decide) (by decide) rfl rfl ?_
        refine mw_aload_n (x := q1) dL_law_345 rfl ?_
        refine mw_aload_n (x := q0) dL_law_346 rfl ?_
        refine mw_iload_n (x := v3) dL_law_347 rfl ?_
        refine mw_iconst (v := 1) dL_law_348 (by decide) ?_
        refine mw_iadd dL_law_349 ?_
        obtain ⟨x117, e118, hf⟩ := ob hf
        refine ml_iald dL_law_350 e118 ?_
        refine mw_aload_n (x := q0) dL_law_351 rfl ?_
        refine mw_iload_n (x := v3) dL_law_352 rfl ?_
        refine mw_iconst (v := 2) dL_law_353 (by decide) ?_
        refine mw_iadd dL_law_354 ?_
        obtain ⟨x119, e120, hf⟩ := ob hf
        refine ml_iald dL_law_355 e120 ?_
        refine mw_aload_n (x := q0) dL_law_356 rfl ?_
        refine mw_iload_n (x := v3) dL_law_357 rfl ?_
        refine mw_iconst (v := 3) dL_law_358 (by decide) ?_
        refine mw_iadd dL_law_359 ?_
        obtain ⟨x121, e122, hf⟩ := ob hf
        refine ml_iald dL_law_360 e122 ?_
        refine mw_aload_n (x := q0) dL_law_361 rfl ?_
        refine mw_iload_n (x := v3) dL_law_362 rfl ?_
        refine mw_iconst (v := 4) dL_law_363 (by decide) ?_
        refine mw_iadd dL_law_364 ?_
        obtain ⟨x123, e124, hf⟩ := ob hf
        refine ml_iald dL_law_365 e124 ?_
        obtain ⟨g127, e128, hf⟩ := ob hf
        obtain ⟨x129, h125, e126, hf⟩ := ob1 hf
        refine ml_callV (ci := 7) (mc := 28 * n + 27) (ms := 10859 * n + 10847) (mc' := 1) (ms' := 12) [vi x117, vi x119, vi x121, vi x123] dL_law_366 mk_X8_pay lk_RL_36 im_X8_pay se_X8_pay (by decide) e128 rfl (Nat.le_of_ble_eq_true rfl) (Nat.le_of_ble_eq_true rfl) (t_X8_pay E _ e126 isR_rfl) ?_
        refine mw_aload_n (x := q2) dL_law_369 rfl ?_
        refine mw_aload_n (x := q0) dL_law_370 rfl ?_
        refine mw_iload_n (x := v3) dL_law_371 rfl ?_
        refine mw_iconst (v := 1) dL_law_372 (by decide) ?_
        refine mw_iadd dL_law_373 ?_
        obtain ⟨x130, e131, hf⟩ := ob hf
        refine ml_iald dL_law_374 e131 ?_
        refine mw_aload_n (x := q0) dL_law_375 rfl ?_
        refine mw_iload_n (x := v3) dL_law_376 rfl ?_
        refine mw_iconst (v := 2) dL_law_377 (by decide) ?_
        refine mw_iadd dL_law_378 ?_
        obtain ⟨x132, e133, hf⟩ := ob hf
        refine ml_iald dL_law_379 e133 ?_
        refine mw_aload_n (x := q0) dL_law_380 rfl ?_
        refine mw_iload_n (x := v3) dL_law_381 rfl ?_
        refine mw_iconst (v := 3) dL_law_382 (by decide) ?_
        refine mw_iadd dL_law_383 ?_
        obtain ⟨x134, e135, hf⟩ := ob hf
        refine ml_iald dL_law_384 e135 ?_
        refine mw_aload_n (x := q0) dL_law_385 rfl ?_
        refine mw_iload_n (x := v3) dL_law_386 rfl ?_
        refine mw_iconst (v := 4) dL_law_387 (by decide) ?_
        refine mw_iadd dL_law_388 ?_
        obtain ⟨x136, e137, hf⟩ := ob hf
        refine ml_iald dL_law_389 e137 ?_
        obtain ⟨g140, e141, hf⟩ := ob hf
        obtain ⟨x142, h138, e139, hf⟩ := ob1 hf
        refine ml_callV (ci := 8) (mc := 28 * n + 27) (ms := 10859 * n + 10847) (mc' := 0) (ms' := 0) [vi x130, vi x132, vi x134, vi x136] dL_law_390 mk_X9_pay lk_RL_40 im_X9_pay se_X9_pay (by decide) e141 rfl (Nat.le_of_ble_eq_true rfl) (Nat.le_of_ble_eq_true rfl) (t_X9_pay E _ e139 isR_rfl) ?_
        refine mw_icmp_eq (tgt := 1715) dL_law_393 rfl (fun c143 => ?_) (fun c143 => ?_)
        · rw [if_pos c143] at hf
          refine mw_iinc (x := v3) (v := v3 + 6) dL_law_1715 rfl rfl (by decide) rfl ?_
          refine mw_goto (tgt := 18) dL_law_1718 rfl ?_
          exact MW.sub (subL_s (subL_s (subL_s (subL_s subL_nil)))) (MW.more (Nat.le_refl _) (by omega) (by omega) (ih _ _ _ _ _ _ hf hX1721))
        · rw [if_neg c143] at hf
          cases hf
      rw [if_neg c825] at hf
      by_cases c825 : (x12 &&& (31 : Int32)) = 6
      · rw [if_pos c825] at hf
        refine ml_tableIn (v := 6) (tgt := 398) dL_law_33 c825 (by decide) (by decide) rfl rfl ?_
        refine mw_aload_n (x := q1) dL_law_398 rfl ?_
        refine mw_aload_n (x := q0) dL_law_399 rfl ?_
        refine mw_iload_n (x := v3) dL_law_400 rfl ?_
        refine mw_iconst (v := 1) dL_law_401 (by decide) ?_
        refine mw_iadd dL_law_402 ?_
        obtain ⟨x144, e145, hf⟩ := ob hf
        refine ml_iald dL_law_403 e145 ?_
        refine mw_aload_n (x := q0) dL_law_404 rfl ?_
        refine mw_iload_n (x := v3) dL_law_405 rfl ?_
        refine mw_iconst (v := 2) dL_law_406 (by decide) ?_
        refine mw_iadd dL_law_407 ?_
        obtain ⟨x146, e147, hf⟩ := ob hf
        refine ml_iald dL_law_408 e147 ?_
        obtain ⟨g150, e151, hf⟩ := ob hf
        obtain ⟨x152, h148, e149, hf⟩ := ob1 hf
        refine ml_callV (ci := 7) (mc := 28 * n + 27) (ms := 10859 * n + 10847) (mc' := 1) (ms' := 12) [vi x144, vi x146] dL_law_409 mk_X8_lost lk_RL_41 im_X8_lost se_X8_lost (by decide) e151 rfl (Nat.le_of_ble_eq_true rfl) (Nat.le_of_ble_eq_true rfl) (t_X8_lost E _ e149 isR_rfl) ?_
        refine mw_aload_n (x := q2) dL_law_412 rfl ?_
        refine mw_aload_n (x := q0) dL_law_413 rfl ?_
        refine mw_iload_n (x := v3) dL_law_414 rfl ?_
        refine mw_iconst (v := 1) dL_law_415 (by decide) ?_
        refine mw_iadd dL_law_416 ?_
        obtain ⟨x153, e154, hf⟩ := ob hf
        refine ml_iald dL_law_417 e154 ?_
        refine mw_aload_n (x := q0) dL_law_418 rfl ?_
        refine mw_iload_n (x := v3) dL_law_419 rfl ?_
        refine mw_iconst (v := 2) dL_law_420 (by decide) ?_
        refine mw_iadd dL_law_421 ?_
        obtain ⟨x155, e156, hf⟩ := ob hf
        refine ml_iald dL_law_422 e156 ?_
        obtain ⟨g159, e160, hf⟩ := ob hf
        obtain ⟨x161, h157, e158, hf⟩ := ob1 hf
        refine ml_callV (ci := 8) (mc := 28 * n + 27) (ms := 10859 * n + 10847) (mc' := 0) (ms' := 0) [vi x153, vi x155] dL_law_423 mk_X9_lost lk_RL_45 im_X9_lost se_X9_lost (by decide) e160 rfl (Nat.le_of_ble_eq_true rfl) (Nat.le_of_ble_eq_true rfl) (t_X9_lost E _ e158 isR_rfl) ?_
        refine mw_icmp_eq (tgt := 1715) dL_law_426 rfl (fun c162 => ?_) (fun c162 => ?_)
        · rw [if_pos c162] at hf
          refine mw_iinc (x := v3) (v := v3 + 6) dL_law_1715 rfl rfl (by decide) rfl ?_
          refine mw_goto (tgt := 18) dL_law_1718 rfl ?_
          exact MW.sub (subL_s (subL_s (subL_s (subL_s subL_nil)))) (MW.more (Nat.le_refl _) (by omega) (by omega) (ih _ _ _ _ _ _ hf hX1721))
        · rw [if_neg c162] at hf
          cases hf
      rw [if_neg c825] at hf
      by_cases c825 : (x12 &&& (31 : Int32)) = 7
      · rw [if_pos c825] at hf
        refine ml_tableIn (v := 7) (tgt := 431) dL_law_33 c825 (by decide) (by decide) rfl rfl ?_
        refine mw_aload_n (x := q1) dL_law_431 rfl ?_
        refine mw_aload_n (x := q0) dL_law_432 rfl ?_
        refine mw_iload_n (x := v3) dL_law_433 rfl ?_
        refine mw_iconst (v := 1) dL_law_434 (by decide) ?_
        refine mw_iadd dL_law_435 ?_
        obtain ⟨x163, e164, hf⟩ := ob hf
        refine ml_iald dL_law_436 e164 ?_
        refine mw_aload_n (x := q0) dL_law_437 rfl ?_
        refine mw_iload_n (x := v3) dL_law_438 rfl ?_
        refine mw_iconst (v := 2) dL_law_439 (by decide) ?_
        refine mw_iadd dL_law_440 ?_
        obtain ⟨x165, e166, hf⟩ := ob hf
        refine ml_iald dL_law_441 e166 ?_
        refine mw_aload_n (x := q0) dL_law_442 rfl ?_
        refine mw_iload_n (x := v3) dL_law_443 rfl ?_
        refine mw_iconst (v := 3) dL_law_444 (by decide) ?_
        refine mw_iadd dL_law_445 ?_
        obtain ⟨x167, e168, hf⟩ := ob hf
        refine ml_iald dL_law_446 e168 ?_
        refine mw_aload_n (x := q0) dL_law_447 rfl ?_
        refine mw_iload_n (x := v3) dL_law_448 rfl ?_
        refine mw_iconst (v := 4) dL_law_449 (by decide) ?_
        refine mw_iadd dL_law_450 ?_
        obtain ⟨x169, e170, hf⟩ := ob hf
        refine ml_iald dL_law_451 e170 ?_
        obtain ⟨g173, e174, hf⟩ := ob hf
        obtain ⟨x175, h171, e172, hf⟩ := ob1 hf
        refine ml_callV (ci := 7) (mc := 28 * n + 27) (ms := 10859 * n + 10847) (mc' := 1) (ms' := 12) [vi x163, vi x165, vi x167, vi x169] dL_law_452 mk_X8_bank lk_RL_46 im_X8_bank se_X8_bank (by decide) e174 rfl (Nat.le_of_ble_eq_true rfl) (Nat.le_of_ble_eq_true rfl) (t_X8_bank E _ e172 isR_rfl) ?_
        refine mw_aload_n (x := q2) dL_law_455 rfl ?_
        refine mw_aload_n (x := q0) dL_law_456 rfl ?_
        refine mw_iload_n (x := v3) dL_law_457 rfl ?_
        refine mw_iconst (v := 1) dL_law_458 (by decide) ?_
        refine mw_iadd dL_law_459 ?_
        obtain ⟨x176, e177, hf⟩ := ob hf
        refine ml_iald dL_law_460 e177 ?_
        refine mw_aload_n (x := q0) dL_law_461 rfl ?_
        refine mw_iload_n (x := v3) dL_law_462 rfl ?_
        refine mw_iconst (v := 2) dL_law_463 (by decide) ?_
        refine mw_iadd dL_law_464 ?_
        obtain ⟨x178, e179, hf⟩ := ob hf
        refine ml_iald dL_law_465 e179 ?_
        refine mw_aload_n (x := q0) dL_law_466 rfl ?_
        refine mw_iload_n (x := v3) dL_law_467 rfl ?_
        refine mw_iconst (v := 3) dL_law_468 (by decide) ?_
        refine mw_iadd dL_law_469 ?_
        obtain ⟨x180, e181, hf⟩ := ob hf
        refine ml_iald dL_law_470 e181 ?_
        refine mw_aload_n (x := q0) dL_law_471 rfl ?_
        refine mw_iload_n (x := v3) dL_law_472 rfl ?_
        refine mw_iconst (v := 4) dL_law_473 (by decide) ?_
        refine mw_iadd dL_law_474 ?_
        obtain ⟨x182, e183, hf⟩ := ob hf
        refine ml_iald dL_law_475 e183 ?_
        obtain ⟨g186, e187, hf⟩ := ob hf
        obtain ⟨x188, h184, e185, hf⟩ := ob1 hf
        refine ml_callV (ci := 8) (mc := 28 * n + 27) (ms := 10859 * n + 10847) (mc' := 0) (ms' := 0) [vi x176, vi x178, vi x180, vi x182] dL_law_476 mk_X9_bank lk_RL_49 im_X9_bank se_X9_bank (by decide) e187 rfl (Nat.le_of_ble_eq_true rfl) (Nat.le_of_ble_eq_true rfl) (t_X9_bank E _ e185 isR_rfl) ?_
        refine mw_icmp_eq (tgt := 1715) dL_law_479 rfl (fun c189 => ?_) (fun c189 => ?_)
        · rw [if_pos c189] at hf
          refine mw_iinc (x := v3) (v := v3 + 6) dL_law_1715 rfl rfl (by decide) rfl ?_
          refine mw_goto (tgt := 18) dL_law_1718 rfl ?_
          exact MW.sub (subL_s (subL_s (subL_s (subL_s subL_nil)))) (MW.more (Nat.le_refl _) (by omega) (by omega) (ih _ _ _ _ _ _ hf hX1721))
        · rw [if_neg c189] at hf
          cases hf
      rw [if_neg c825] at hf
      by_cases c825 : (x12 &&& (31 : Int32)) = 8
      · rw [if_pos c825] at hf
        refine ml_tableIn (v := 8) (tgt := 484) dL_law_33 c825 (by decide) (by decide) rfl rfl ?_
        refine mw_aload_n (x := q1) dL_law_484 rfl ?_
        refine mw_aload_n (x := q0) dL_law_485 rfl ?_
        refine mw_iload_n (x := v3) dL_law_486 rfl ?_
        refine mw_iconst (v := 1) dL_law_487 (by decide) ?_
        refine mw_iadd dL_law_488 ?_
        obtain ⟨x190, e191, hf⟩ := ob hf
        refine ml_iald dL_law_489 e191 ?_
        refine mw_aload_n (x := q0) dL_law_490 rfl ?_
        refine mw_iload_n (x := v3) dL_law_491 rfl ?_
        refine mw_iconst (v := 2) dL_law_492 (by decide) ?_
        refine mw_iadd dL_law_493 ?_
        obtain ⟨x192, e193, hf⟩ := ob hf
        refine ml_iald dL_law_494 e193 ?_
        refine mw_aload_n (x := q0) dL_law_495 rfl ?_
        refine mw_iload_n (x := v3) dL_law_496 rfl ?_
        refine mw_iconst (v := 3) dL_law_497 (by decide) ?_
        refine mw_iadd dL_law_498 ?_
        obtain ⟨x194, e195, hf⟩ := ob hf
        refine ml_iald dL_law_499 e195 ?_
        refine mw_aload_n (x := q0) dL_law_500 rfl ?_
        refine mw_iload_n (x := v3) dL_law_501 rfl ?_
        refine mw_iconst (v := 4) dL_law_502 (by decide) ?_
        refine mw_iadd dL_law_503 ?_
        obtain ⟨x196, e197, hf⟩ := ob hf
        refine ml_iald dL_law_504 e197 ?_
        obtain ⟨g200, e201, hf⟩ := ob hf
        obtain ⟨x202, h198, e199, hf⟩ := ob1 hf
        refine ml_callV (ci := 7) (mc := 28 * n + 27) (ms := 10859 * n + 10847) (mc' := 1) (ms' := 12) [vi x190, vi x192, vi x194, vi x196] dL_law_505 mk_X8_holiday lk_RL_50 im_X8_holiday se_X8_holiday (by decide) e201 rfl (Nat.le_of_ble_eq_true rfl) (Nat.le_of_ble_eq_true rfl) (t_X8_holiday E _ e199 isR_rfl) ?_
        refine mw_aload_n (x := q2) dL_law_508 rfl ?_
        refine mw_aload_n (x := q0) dL_law_509 rfl ?_
        refine mw_iload_n (x := v3) dL_law_510 rfl ?_
        refine mw_iconst (v := 1) dL_law_511 (by decide) ?_
        refine mw_iadd dL_law_512 ?_
        obtain ⟨x203, e204, hf⟩ := ob hf
        refine ml_iald dL_law_513 e204 ?_
        refine mw_aload_n (x := q0) dL_law_514 rfl ?_
        refine mw_iload_n (x := v3) dL_law_515 rfl ?_
        refine mw_iconst (v := 2) dL_law_516 (by decide) ?_
        refine mw_iadd dL_law_517 ?_
        obtain ⟨x205, e206, hf⟩ := ob hf
        refine ml_iald dL_law_518 e206 ?_
        refine mw_aload_n (x := q0) dL_law_519 rfl ?_
        refine mw_iload_n (x := v3) dL_law_520 rfl ?_
        refine mw_iconst (v := 3) dL_law_521 (by decide) ?_
        refine mw_iadd dL_law_522 ?_
        obtain ⟨x207, e208, hf⟩ := ob hf
        refine ml_iald dL_law_523 e208 ?_
        refine mw_aload_n (x := q0) dL_law_524 rfl ?_
        refine mw_iload_n (x := v3) dL_law_525 rfl ?_
        refine mw_iconst (v := 4) dL_law_526 (by decide) ?_
        refine mw_iadd dL_law_527 ?_
        obtain ⟨x209, e210, hf⟩ := ob hf
        refine ml_iald dL_law_528 e210 ?_
        obtain ⟨g213, e214, hf⟩ := ob hf
        obtain ⟨x215, h211, e212, hf⟩ := ob1 hf
        refine ml_callV (ci := 8) (mc := 28 * n + 27) (ms := 10859 * n + 10847) (mc' := 0) (ms' := 0) [vi x203, vi x205, vi x207, vi x209] dL_law_529 mk_X9_holiday lk_RL_53 im_X9_holiday se_X9_holiday (by decide) e214 rfl (Nat.le_of_ble_eq_true rfl) (Nat.le_of_ble_eq_true rfl) (t_X9_holiday E _ e212 isR_rfl) ?_
        refine mw_icmp_eq (tgt := 1715) dL_law_532 rfl (fun c216 => ?_) (fun c216 => ?_)
        · rw [if_pos c216] at hf
          refine mw_iinc (x := v3) (v := v3 + 6) dL_law_1715 rfl rfl (by decide) rfl ?_
          refine mw_goto (tgt := 18) dL_law_1718 rfl ?_
          exact MW.sub (subL_s (subL_s (subL_s (subL_s subL_nil)))) (MW.more (Nat.le_refl _) (by omega) (by omega) (ih _ _ _ _ _ _ hf hX1721))
        · rw [if_neg c216] at hf
          cases hf
      rw [if_neg c825] at hf
      by_cases c825 : (x12 &&& (31 : Int32)) = 9
      · rw [if_pos c825] at hf
        refine ml_tableIn (v := 9) (tgt := 537) dL_law_33 c825 (by decide) (by decide) rfl rfl ?_
        refine mw_aload_n (x := q1) dL_law_537 rfl ?_
        refine mw_aload_n (x := q0) dL_law_538 rfl ?_
        refine mw_iload_n (x := v3) dL_law_539 rfl ?_
        refine mw_iconst (v := 1) dL_law_540 (by decide) ?_
        refine mw_iadd dL_law_541 ?_
        obtain ⟨x217, e218, hf⟩ := ob hf
        refine ml_iald dL_law_542 e218 ?_
        refine mw_aload_n (x := q0) dL_law_543 rfl ?_
        refine mw_iload_n (x := v3) dL_law_544 rfl ?_
        refine mw_iconst (v := 2) dL_law_545 (by decide) ?_
        refine mw_iadd dL_law_546 ?_
        obtain ⟨x219, e220, hf⟩ := ob hf
        refine ml_iald dL_law_547 e220 ?_
        refine mw_aload_n (x := q0) dL_law_548 rfl ?_
        refine mw_iload_n (x := v3) dL_law_549 rfl ?_
        refine mw_iconst (v := 3) dL_law_550 (by decide) ?_
        refine mw_iadd dL_law_551 ?_
        obtain ⟨x221, e222, hf⟩ := ob hf
        refine ml_iald dL_law_552 e222 ?_
        obtain ⟨g225, e226, hf⟩ := ob hf
        obtain ⟨x227, h223, e224, hf⟩ := ob1 hf
        refine ml_callV (ci := 7) (mc := 28 * n + 27) (ms := 10859 * n + 10847) (mc' := 1) (ms' := 12) [vi x217, vi x219, vi x221] dL_law_553 mk_X8_settle lk_RL_54 im_X8_settle se_X8_settle (by decide) e226 rfl (Nat.le_of_ble_eq_true rfl) (Nat.le_of_ble_eq_true rfl) (t_X8_settle E _ e224 isR_rfl) ?_
        refine mw_aload_n (x := q2) dL_law_556 rfl ?_
        refine mw_aload_n (x := q0) dL_law_557 rfl ?_
        refine mw_iload_n (x := v3) dL_law_558 rfl ?_
        refine mw_iconst (v := 1) dL_law_559 (by decide) ?_
        refine mw_iadd dL_law_560 ?_
        obtain ⟨x228, e229, hf⟩ := ob hf
        refine ml_iald dL_law_561 e229 ?_
        refine mw_aload_n (x := q0) dL_law_562 rfl ?_
        refine mw_iload_n (x := v3) dL_law_563 rfl ?_
        refine mw_iconst (v := 2) dL_law_564 (by decide) ?_
        refine mw_iadd dL_law_565 ?_
        obtain ⟨x230, e231, hf⟩ := ob hf
        refine ml_iald dL_law_566 e231 ?_
        refine mw_aload_n (x := q0) dL_law_567 rfl ?_
        refine mw_iload_n (x := v3) dL_law_568 rfl ?_
        refine mw_iconst (v := 3) dL_law_569 (by decide) ?_
        refine mw_iadd dL_law_570 ?_
        obtain ⟨x232, e233, hf⟩ := ob hf
        refine ml_iald dL_law_571 e233 ?_
        obtain ⟨g236, e237, hf⟩ := ob hf
        obtain ⟨x238, h234, e235, hf⟩ := ob1 hf
        refine ml_callV (ci := 8) (mc := 28 * n + 27) (ms := 10859 * n + 10847) (mc' := 0) (ms' := 0) [vi x228, vi x230, vi x232] dL_law_572 mk_X9_settle lk_RL_58 im_X9_settle se_X9_settle (by decide) e237 rfl (Nat.le_of_ble_eq_true rfl) (Nat.le_of_ble_eq_true rfl) (t_X9_settle E _ e235 isR_rfl) ?_
        refine mw_icmp_eq (tgt := 1715) dL_law_575 rfl (fun c239 => ?_) (fun c239 => ?_)
        · rw [if_pos c239] at hf
          refine mw_iinc (x := v3) (v := v3 + 6) dL_law_1715 rfl rfl (by decide) rfl ?_
          refine mw_goto (tgt := 18) dL_law_1718 rfl ?_
          exact MW.sub (subL_s (subL_s (subL_s (subL_s subL_nil)))) (MW.more (Nat.le_refl _) (by omega) (by omega) (ih _ _ _ _ _ _ hf hX1721))
        · rw [if_neg c239] at hf
          cases hf
      rw [if_neg c825] at hf
      by_cases c825 : (x12 &&& (31 : Int32)) = 10
      · rw [if_pos c825] at hf
        refine ml_tableIn (v := 10) (tgt := 580) dL_law_33 c825 (by decide) (by decide) rfl rfl ?_
        refine mw_aload_n (x := q1) dL_law_580 rfl ?_
        refine mw_aload_n (x := q0) dL_law_581 rfl ?_
        refine mw_iload_n (x := v3) dL_law_582 rfl ?_
        refine mw_iconst (v := 1) dL_law_583 (by decide) ?_
        refine mw_iadd dL_law_584 ?_
        obtain ⟨x240, e241, hf⟩ := ob hf
        refine ml_iald dL_law_585 e241 ?_
        refine mw_aload_n (x := q0) dL_law_586 rfl ?_
        refine mw_iload_n (x := v3) dL_law_587 rfl ?_
        refine mw_iconst (v := 2) dL_law_588 (by decide) ?_
        refine mw_iadd dL_law_589 ?_
        obtain ⟨x242, e243, hf⟩ := ob hf
        refine ml_iald dL_law_590 e243 ?_
        obtain ⟨g246, e247, hf⟩ := ob hf
        obtain ⟨x248, h244, e245, hf⟩ := ob1 hf
        refine ml_callV (ci := 7) (mc := 28 * n + 27) (ms := 10859 * n + 10847) (mc' := 1) (ms' := 12) [vi x240, vi x242] dL_law_591 mk_X8_claim lk_RL_59 im_X8_claim se_X8_claim (by decide) e247 rfl (Nat.le_of_ble_eq_true rfl) (Nat.le_of_ble_eq_true rfl) (t_X8_claim E _ e245 isR_rfl) ?_
        refine mw_aload_n (x := q2) dL_law_594 rfl ?_
        refine mw_aload_n (x := q0) dL_law_595 rfl ?_
        refine mw_iload_n (x := v3) dL_law_596 rfl ?_
        refine mw_iconst (v := 1) dL_law_597 (by decide) ?_
        refine mw_iadd dL_law_598 ?_
        obtain ⟨x249, e250, hf⟩ := ob hf
        refine ml_iald dL_law_599 e250 ?_
        refine mw_aload_n (x := q0) dL_law_600 rfl ?_
        refine mw_iload_n (x := v3) dL_law_601 rfl ?_
        refine mw_iconst (v := 2) dL_law_602 (by decide) ?_
        refine mw_iadd dL_law_603 ?_
        obtain ⟨x251, e252, hf⟩ := ob hf
        refine ml_iald dL_law_604 e252 ?_
        obtain ⟨g255, e256, hf⟩ := ob hf
        obtain ⟨x257, h253, e254, hf⟩ := ob1 hf
        refine ml_callV (ci := 8) (mc := 28 * n + 27) (ms := 10859 * n + 10847) (mc' := 0) (ms' := 0) [vi x249, vi x251] dL_law_605 mk_X9_claim lk_RL_62 im_X9_claim se_X9_claim (by decide) e256 rfl (Nat.le_of_ble_eq_true rfl) (Nat.le_of_ble_eq_true rfl) (t_X9_claim E _ e254 isR_rfl) ?_
        refine mw_icmp_eq (tgt := 1715) dL_law_608 rfl (fun c258 => ?_) (fun c258 => ?_)
        · rw [if_pos c258] at hf
          refine mw_iinc (x := v3) (v := v3 + 6) dL_law_1715 rfl rfl (by decide) rfl ?_
          refine mw_goto (tgt := 18) dL_law_1718 rfl ?_
          exact MW.sub (subL_s (subL_s (subL_s (subL_s subL_nil)))) (MW.more (Nat.le_refl _) (by omega) (by omega) (ih _ _ _ _ _ _ hf hX1721))
        · rw [if_neg c258] at hf
          cases hf
      rw [if_neg c825] at hf
      by_cases c825 : (x12 &&& (31 : Int32)) = 11
      · rw [if_pos c825] at hf
        refine ml_tableIn (v := 11) (tgt := 613) dL_law_33 c825 (by decide) (by decide) rfl rfl ?_
        refine mw_aload_n (x := q1) dL_law_613 rfl ?_
        refine mw_aload_n (x := q0) dL_law_614 rfl ?_
        refine mw_iload_n (x := v3) dL_law_615 rfl ?_
        refine mw_iconst (v := 1) dL_law_616 (by decide) ?_
        refine mw_iadd dL_law_617 ?_
        obtain ⟨x259, e260, hf⟩ := ob hf
        refine ml_iald dL_law_618 e260 ?_
        obtain ⟨g263, e264, hf⟩ := ob hf
        obtain ⟨x265, h261, e262, hf⟩ := ob1 hf
        refine ml_callV (ci := 7) (mc := 28 * n + 28) (ms := 10859 * n + 10859) (mc' := 0) (ms' := 0) [vi x259] dL_law_619 mk_X8_untell lk_RL_63 im_X8_untell se_X8_untell (by decide) e264 rfl (Nat.le_of_ble_eq_true rfl) (Nat.le_of_ble_eq_true rfl) (t_X8_untell E _ e262 isR_rfl) ?_
        refine mw_aload_n (x := q2) dL_law_622 rfl ?_
        refine mw_aload_n (x := q0) dL_law_623 rfl ?_
        refine mw_iload_n (x := v3) dL_law_624 rfl ?_
        refine mw_iconst (v := 1) dL_law_625 (by decide) ?_
        refine mw_iadd dL_law_626 ?_
        obtain ⟨x266, e267, hf⟩ := ob hf
        refine ml_iald dL_law_627 e267 ?_
        obtain ⟨g270, e271, hf⟩ := ob hf
        obtain ⟨x272, h268, e269, hf⟩ := ob1 hf
        refine ml_callV (ci := 8) (mc := 28 * n + 28) (ms := 10859 * n + 10859) (mc' := 0) (ms' := 0) [vi x266] dL_law_628 mk_X9_untell lk_RL_67 im_X9_untell se_X9_untell (by decide) e271 rfl (Nat.le_of_ble_eq_true rfl) (Nat.le_of_ble_eq_true rfl) (t_X9_untell E _ e269 isR_rfl) ?_
        refine mw_icmp_eq (tgt := 1715) dL_law_631 rfl (fun c273 => ?_) (fun c273 => ?_)
        · rw [if_pos c273] at hf
          refine mw_iinc (x := v3) (v := v3 + 6) dL_law_1715 rfl rfl (by decide) rfl ?_
          refine mw_goto (tgt := 18) dL_law_1718 rfl ?_
          exact MW.sub (subL_s (subL_s (subL_s (subL_s subL_nil)))) (MW.more (Nat.le_refl _) (by omega) (by omega) (ih _ _ _ _ _ _ hf hX1721))
        · rw [if_neg c273] at hf
          cases hf
      rw [if_neg c825] at hf
      by_cases c825 : (x12 &&& (31 : Int32)) = 12
      · rw [if_pos c825] at hf
        refine ml_tableIn (v := 12) (tgt := 636) dL_law_33 c825 (by decide) (by decide) rfl rfl ?_
        refine mw_aload_n (x := q1) dL_law_636 rfl ?_
        refine mw_aload_n (x := q0) dL_law_637 rfl ?_
        refine mw_iload_n (x := v3) dL_law_638 rfl ?_
        refine mw_iconst (v := 1) dL_law_639 (by decide) ?_
        refine mw_iadd dL_law_640 ?_
        obtain ⟨x274, e275, hf⟩ := ob hf
        refine ml_iald dL_law_641 e275 ?_
        obtain ⟨g278, e279, hf⟩ := ob hf
        obtain ⟨x280, h276, e277, hf⟩ := ob1 hf
        refine ml_callV (ci := 7) (mc := 28 * n + 28) (ms := 10859 * n + 10859) (mc' := 0) (ms' := 0) [vi x274] dL_law_642 mk_X8_later lk_RL_68 im_X8_later se_X8_later (by decide) e279 rfl (Nat.le_of_ble_eq_true rfl) (Nat.le_of_ble_eq_true rfl) (t_X8_later E _ e277 isR_rfl) ?_
        refine mw_aload_n (x := q2) dL_law_645 rfl ?_
        refine mw_aload_n (x := q0) dL_law_646 rfl ?_
        refine mw_iload_n (x := v3) dL_law_647 rfl ?_
        refine mw_iconst (v := 1) dL_law_648 (by decide) ?_
        refine mw_iadd dL_law_649 ?_
        obtain ⟨x281, e282, hf⟩ := ob hf
        refine ml_iald dL_law_650 e282 ?_
        obtain ⟨g285, e286, hf⟩ := ob hf
        obtain ⟨x287, h283, e284, hf⟩ := ob1 hf
        refine ml_callV (ci := 8) (mc := 28 * n + 28) (ms := 10859 * n + 10859) (mc' := 0) (ms' := 0) [vi x281] dL_law_651 mk_X9_later lk_RL_71 im_X9_later se_X9_later (by decide) e286 rfl (Nat.le_of_ble_eq_true rfl) (Nat.le_of_ble_eq_true rfl) (t_X9_later E _ e284 isR_rfl) ?_
        refine mw_icmp_eq (tgt := 1715) dL_law_654 rfl (fun c288 => ?_) (fun c288 => ?_)
        · rw [if_pos c288] at hf
          refine mw_iinc (x := v3) (v := v3 + 6) dL_law_1715 rfl rfl (by decide) rfl ?_
          refine mw_goto (tgt := 18) dL_law_1718 rfl ?_
          exact MW.sub (subL_s (subL_s (subL_s (subL_s subL_nil)))) (MW.more (Nat.le_refl _) (by omega) (by omega) (ih _ _ _ _ _ _ hf hX1721))
        · rw [if_neg c288] at hf
          cases hf
      rw [if_neg c825] at hf
      by_cases c825 : (x12 &&& (31 : Int32)) = 13
      · rw [if_pos c825] at hf
        refine ml_tableIn (v := 13) (tgt := 659) dL_law_33 c825 (by decide) (by decide) rfl rfl ?_
        refine mw_aload_n (x := q1) dL_law_659 rfl ?_
        refine mw_aload_n (x := q0) dL_law_660 rfl ?_
        refine mw_iload_n (x := v3) dL_law_661 rfl ?_
        refine mw_iconst (v := 1) dL_law_662 (by decide) ?_
        refine mw_iadd dL_law_663 ?_
        obtain ⟨x289, e290, hf⟩ := ob hf
        refine ml_iald dL_law_664 e290 ?_
        refine mw_aload_n (x := q0) dL_law_665 rfl ?_
        refine mw_iload_n (x := v3) dL_law_666 rfl ?_
        refine mw_iconst (v := 2) dL_law_667 (by decide) ?_
        refine mw_iadd dL_law_668 ?_
        obtain ⟨x291, e292, hf⟩ := ob hf
        refine ml_iald dL_law_669 e292 ?_
        refine mw_aload_n (x := q0) dL_law_670 rfl ?_
        refine mw_iload_n (x := v3) dL_law_671 rfl ?_
        refine mw_iconst (v := 3) dL_law_672 (by decide) ?_
        refine mw_iadd dL_law_673 ?_
        obtain ⟨x293, e294, hf⟩ := ob hf
        refine ml_iald dL_law_674 e294 ?_
        obtain ⟨w296, h297, r298, hf⟩ := ob1 hf
        have J831 : MW E m_L_law (d + 206) (28 * n + 28) (10859 * n + 10859) 683 [some (vq q0), some (vq q1), some (vq q2), some (vi v3)] [vi w296, vi x291, vi x289, vq q1] h297 K := by
          refine mw_aload_n (x := q0) dL_law_683 rfl ?_
          refine mw_iload_n (x := v3) dL_law_684 rfl ?_
          refine mw_iconst (v := 4) dL_law_685 (by decide) ?_
          refine mw_iadd dL_law_686 ?_
          obtain ⟨x299, e300, hf⟩ := ob hf
          refine ml_iald dL_law_687 e300 ?_
          obtain ⟨g303, e304, hf⟩ := ob hf
          obtain ⟨x305, h301, e302, hf⟩ := ob1 hf
          refine ml_callV (ci := 7) (mc := 28 * n + 28) (ms := 10859 * n + 10859) (mc' := 0) (ms' := 0) [vi x289, vi x291, vi w296, vi x299] dL_law_688 mk_X8_span lk_RL_72 im_X8_span se_X8_span (by decide) e304 rfl (Nat.le_of_ble_eq_true rfl) (Nat.le_of_ble_eq_true rfl) (t_X8_span E _ e302 isR_rfl) ?_
          refine mw_aload_n (x := q2) dL_law_691 rfl ?_
          refine mw_aload_n (x := q0) dL_law_692 rfl ?_
          refine mw_iload_n (x := v3) dL_law_693 rfl ?_
          refine mw_iconst (v := 1) dL_law_694 (by decide) ?_
          refine mw_iadd dL_law_695 ?_
          obtain ⟨x306, e307, hf⟩ := ob hf
          refine ml_iald dL_law_696 e307 ?_
          refine mw_aload_n (x := q0) dL_law_697 rfl ?_
          refine mw_iload_n (x := v3) dL_law_698 rfl ?_
          refine mw_iconst (v := 2) dL_law_699 (by decide) ?_
          refine mw_iadd dL_law_700 ?_
          obtain ⟨x308, e309, hf⟩ := ob hf
          refine ml_iald dL_law_701 e309 ?_
          refine mw_aload_n (x := q0) dL_law_702 rfl ?_
          refine mw_iload_n (x := v3) dL_law_703 rfl ?_
          refine mw_iconst (v := 3) dL_law_704 (by decide) ?_
          refine mw_iadd dL_law_705 ?_
          obtain ⟨x310, e311, hf⟩ := ob hf
          refine ml_iald dL_law_706 e311 ?_
          obtain ⟨w313, h314, r315, hf⟩ := ob1 hf
          have J832 : MW E m_L_law (d + 206) (28 * n + 28) (10859 * n + 10859) 715 [some (vq q0), some (vq q1), some (vq q2), some (vi v3)] [vi w313, vi x308, vi x306, vq q2, vi x305] h314 K := by
            refine mw_aload_n (x := q0) dL_law_715 rfl ?_
            refine mw_iload_n (x := v3) dL_law_716 rfl ?_
            refine mw_iconst (v := 4) dL_law_717 (by decide) ?_
            refine mw_iadd dL_law_718 ?_
            obtain ⟨x316, e317, hf⟩ := ob hf
            refine ml_iald dL_law_719 e317 ?_
            obtain ⟨g320, e321, hf⟩ := ob hf
            obtain ⟨x322, h318, e319, hf⟩ := ob1 hf
            refine ml_callV (ci := 8) (mc := 28 * n + 28) (ms := 10859 * n + 10859) (mc' := 0) (ms' := 0) [vi x306, vi x308, vi w313, vi x316] dL_law_720 mk_X9_span lk_RL_76 im_X9_span se_X9_span (by decide) e321 rfl (Nat.le_of_ble_eq_true rfl) (Nat.le_of_ble_eq_true rfl) (t_X9_span E _ e319 isR_rfl) ?_
            refine mw_icmp_eq (tgt := 1715) dL_law_723 rfl (fun c323 => ?_) (fun c323 => ?_)
            · rw [if_pos c323] at hf
              refine mw_iinc (x := v3) (v := v3 + 6) dL_law_1715 rfl rfl (by decide) rfl ?_
              refine mw_goto (tgt := 18) dL_law_1718 rfl ?_
              exact MW.sub (subL_s (subL_s (subL_s (subL_s subL_nil)))) (MW.more (Nat.le_refl _) (by omega) (by omega) (ih _ _ _ _ _ _ hf hX1721))
            · rw [if_neg c323] at hf
              cases hf
          refine mw_if_eq (tgt := 714) dL_law_707 rfl (fun c312 => ?_) (fun c312 => ?_)
          · rw [if_pos c312] at r315
            refine mw_iconst (v := 0) dL_law_714 (by decide) ?_
            obtain ⟨rfl, rfl⟩ := y1 r315
            exact MW.sub (subL_s (subL_s (subL_s (subL_s subL_nil)))) (MW.more (Nat.le_refl _) (Nat.le_refl _) (Nat.le_refl _) J832)
          · rw [if_neg c312] at r315
            refine mw_iconst (v := 1) dL_law_710 (by decide) ?_
            refine mw_goto (tgt := 715) dL_law_711 rfl ?_
            obtain ⟨rfl, rfl⟩ := y1 r315
            exact MW.sub (subL_s (subL_s (subL_s (subL_s subL_nil)))) (MW.more (Nat.le_refl _) (Nat.le_refl _) (Nat.le_refl _) J832)
        refine mw_if_eq (tgt := 682) dL_law_675 rfl (fun c295 => ?_) (fun c295 => ?_)
        · rw [if_pos c295] at r298
          refine mw_iconst (v := 0) dL_law_682 (by decide) ?_
          obtain ⟨rfl, rfl⟩ := y1 r298
          exact MW.sub (subL_s (subL_s (subL_s (subL_s subL_nil)))) (MW.more (Nat.le_refl _) (Nat.le_refl _) (Nat.le_refl _) J831)
        · rw [if_neg c295] at r298
          refine mw_iconst (v := 1) dL_law_678 (by decide) ?_
          refine mw_goto (tgt := 683) dL_law_679 rfl ?_
          obtain ⟨rfl, rfl⟩ := y1 r298
          exact MW.sub (subL_s (subL_s (subL_s (subL_s subL_nil)))) (MW.more (Nat.le_refl _) (Nat.le_refl _) (Nat.le_refl _) J831)
      rw [if_neg c825] at hf
      by_cases c825 : (x12 &&& (31 : Int32)) = 14
      · rw [if_pos c825] at hf
        refine ml_tableIn (v := 14) (tgt := 728) dL_law_33 c825 (by decide) (by decide) rfl rfl ?_
        refine mw_aload_n (x := q1) dL_law_728 rfl ?_
        refine mw_aload_n (x := q0) dL_law_729 rfl ?_
        refine mw_iload_n (x := v3) dL_law_730 rfl ?_
        refine mw_iconst (v := 1) dL_law_731 (by decide) ?_
        refine mw_iadd dL_law_732 ?_
        obtain ⟨x324, e325, hf⟩ := ob hf
        refine ml_iald dL_law_733 e325 ?_
        refine mw_aload_n (x := q0) dL_law_734 rfl ?_
        refine mw_iload_n (x := v3) dL_law_735 rfl ?_
        refine mw_iconst (v := 2) dL_law_736 (by decide) ?_
        refine mw_iadd dL_law_737 ?_
        obtain ⟨x326, e327, hf⟩ := ob hf
        refine ml_iald dL_law_738 e327 ?_
        obtain ⟨g330, e331, hf⟩ := ob hf
        obtain ⟨x332, h328, e329, hf⟩ := ob1 hf
        refine ml_callV (ci := 7) (mc := 28 * n + 28) (ms := 10859 * n + 10859) (mc' := 0) (ms' := 0) [vi x324, vi x326] dL_law_739 mk_X8_quarrel lk_RL_77 im_X8_quarrel se_X8_quarrel (by decide) e331 rfl (Nat.le_of_ble_eq_true rfl) (Nat.le_of_ble_eq_true rfl) (t_X8_quarrel E _ e329 isR_rfl) ?_
        refine mw_aload_n (x := q2) dL_law_742 rfl ?_
        refine mw_aload_n (x := q0) dL_law_743 rfl ?_
        refine mw_iload_n (x := v3) dL_law_744 rfl ?_
        refine mw_iconst (v := 1) dL_law_745 (by decide) ?_
        refine mw_iadd dL_law_746 ?_
        obtain ⟨x333, e334, hf⟩ := ob hf
        refine ml_iald dL_law_747 e334 ?_
        refine mw_aload_n (x := q0) dL_law_748 rfl ?_
        refine mw_iload_n (x := v3) dL_law_749 rfl ?_
        refine mw_iconst (v := 2) dL_law_750 (by decide) ?_
        refine mw_iadd dL_law_751 ?_
        obtain ⟨x335, e336, hf⟩ := ob hf
        refine ml_iald dL_law_752 e336 ?_
        obtain ⟨g339, e340, hf⟩ := ob hf
        obtain ⟨x341, h337, e338, hf⟩ := ob1 hf
        refine ml_callV (ci := 8) (mc := 28 * n + 28) (ms := 10859 * n + 10859) (mc' := 0) (ms' := 0) [vi x333, vi x335] dL_law_753 mk_X9_quarrel lk_RL_80 im_X9_quarrel se_X9_quarrel (by decide) e340 rfl (Nat.le_of_ble_eq_true rfl) (Nat.le_of_ble_eq_true rfl) (t_X9_quarrel E _ e338 isR_rfl) ?_
        refine mw_icmp_eq (tgt := 1715) dL_law_756 rfl (fun c342 => ?_) (fun c342 => ?_)
        · rw [if_pos c342] at hf
          refine mw_iinc (x := v3) (v := v3 + 6) dL_law_1715 rfl rfl (by decide) rfl ?_
          refine mw_goto (tgt := 18) dL_law_1718 rfl ?_
          exact MW.sub (subL_s (subL_s (subL_s (subL_s subL_nil)))) (MW.more (Nat.le_refl _) (by omega) (by omega) (ih _ _ _ _ _ _ hf hX1721))
        · rw [if_neg c342] at hf
          cases hf
      rw [if_neg c825] at hf
      by_cases c825 : (x12 &&& (31 : Int32)) = 15
      · rw [if_pos c825] at hf
        refine ml_tableIn (v := 15) (tgt := 761) dL_law_33 c825 (by decide) (by decide) rfl rfl ?_
        refine mw_aload_n (x := q1) dL_law_761 rfl ?_
        refine mw_aload_n (x := q0) dL_law_762 rfl ?_
        refine mw_iload_n (x := v3) dL_law_763 rfl ?_
        refine mw_iconst (v := 1) dL_law_764 (by decide) ?_
        refine mw_iadd dL_law_765 ?_
        obtain ⟨x343, e344, hf⟩ := ob hf
        refine ml_iald dL_law_766 e344 ?_
        refine mw_aload_n (x := q0) dL_law_767 rfl ?_
        refine mw_iload_n (x := v3) dL_law_768 rfl ?_
        refine mw_iconst (v := 2) dL_law_769 (by decide) ?_
        refine mw_iadd dL_law_770 ?_
        obtain ⟨x345, e346, hf⟩ := ob hf
        refine ml_iald dL_law_771 e346 ?_
        refine mw_aload_n (x := q0) dL_law_772 rfl ?_
        refine mw_iload_n (x := v3) dL_law_773 rfl ?_
        refine mw_iconst (v := 3) dL_law_774 (by decide) ?_
        refine mw_iadd dL_law_775 ?_
        obtain ⟨x347, e348, hf⟩ := ob hf
        refine ml_iald dL_law_776 e348 ?_
        refine mw_aload_n (x := q0) dL_law_777 rfl ?_
        refine mw_iload_n (x := v3) dL_law_778 rfl ?_
        refine mw_iconst (v := 4) dL_law_779 (by decide) ?_
        refine mw_iadd dL_law_780 ?_
        obtain ⟨x349, e350, hf⟩ := ob hf
        refine ml_iald dL_law_781 e350 ?_
        obtain ⟨w352, h353, r354, hf⟩ := ob1 hf
        have J833 : MW E m_L_law (d + 206) (28 * n + 28) (10859 * n + 10859) 790 [some (vq q0), some (vq q1), some (vq q2), some (vi v3)] [vi w352, vi x347, vi x345, vi x343, vq q1] h353 K := by
          refine mw_aload_n (x := q0) dL_law_790 rfl ?_
          refine mw_iload_n (x := v3) dL_law_791 rfl ?_
          refine mw_iconst (v := 5) dL_law_792 (by decide) ?_
          refine mw_iadd dL_law_793 ?_
          obtain ⟨x355, e356, hf⟩ := ob hf
          refine ml_iald dL_law_794 e356 ?_
          obtain ⟨g359, e360, hf⟩ := ob hf
          obtain ⟨x361, h357, e358, hf⟩ := ob1 hf
          refine ml_callV (ci := 7) (mc := 28 * n + 28) (ms := 10859 * n + 10859) (mc' := 0) (ms' := 0) [vi x343, vi x345, vi x347, vi w352, vi x355] dL_law_795 mk_X8_counted lk_RL_81 im_X8_counted se_X8_counted (by decide) e360 rfl (Nat.le_of_ble_eq_true rfl) (Nat.le_of_ble_eq_true rfl) (t_X8_counted E _ e358 isR_rfl) ?_
          refine mw_aload_n (x := q2) dL_law_798 rfl ?_
          refine mw_aload_n (x := q0) dL_law_799 rfl ?_
          refine mw_iload_n (x := v3) dL_law_800 rfl ?_
          refine mw_iconst (v := 1) dL_law_801 (by decide) ?_
          refine mw_iadd dL_law_802 ?_
          obtain ⟨x362, e363, hf⟩ := ob hf
          refine ml_iald dL_law_803 e363 ?_
          refine mw_aload_n (x := q0) dL_law_804 rfl ?_
          refine mw_iload_n (x := v3) dL_law_805 rfl ?_
          refine mw_iconst (v := 2) dL_law_806 (by decide) ?_
          refine mw_iadd dL_law_807 ?_
          obtain ⟨x364, e365, hf⟩ := ob hf
          refine ml_iald dL_law_808 e365 ?_
          refine mw_aload_n (x := q0) dL_law_809 rfl ?_
          refine mw_iload_n (x := v3) dL_law_810 rfl ?_
          refine mw_iconst (v := 3) dL_law_811 (by decide) ?_
          refine mw_iadd dL_law_812 ?_
          obtain ⟨x366, e367, hf⟩ := ob hf
          refine ml_iald dL_law_813 e367 ?_
          refine mw_aload_n (x := q0) dL_law_814 rfl ?_
          refine mw_iload_n (x := v3) dL_law_815 rfl ?_
          refine mw_iconst (v := 4) dL_law_816 (by decide) ?_
          refine mw_iadd dL_law_817 ?_
          obtain ⟨x368, e369, hf⟩ := ob hf
          refine ml_iald dL_law_818 e369 ?_
          obtain ⟨w371, h372, r373, hf⟩ := ob1 hf
          have J834 : MW E m_L_law (d + 206) (28 * n + 28) (10859 * n + 10859) 827 [some (vq q0), some (vq q1), some (vq q2), some (vi v3)] [vi w371, vi x366, vi x364, vi x362, vq q2, vi x361] h372 K := by
            refine mw_aload_n (x := q0) dL_law_827 rfl ?_
            refine mw_iload_n (x := v3) dL_law_828 rfl ?_
            refine mw_iconst (v := 5) dL_law_829 (by decide) ?_
            refine mw_iadd dL_law_830 ?_
            obtain ⟨x374, e375, hf⟩ := ob hf
            refine ml_iald dL_law_831 e375 ?_
            obtain ⟨g378, e379, hf⟩ := ob hf
            obtain ⟨x380, h376, e377, hf⟩ := ob1 hf
            refine ml_callV (ci := 8) (mc := 28 * n + 28) (ms := 10859 * n + 10859) (mc' := 0) (ms' := 0) [vi x362, vi x364, vi x366, vi w371, vi x374] dL_law_832 mk_X9_counted lk_RL_85 im_X9_counted se_X9_counted (by decide) e379 rfl (Nat.le_of_ble_eq_true rfl) (Nat.le_of_ble_eq_true rfl) (t_X9_counted E _ e377 isR_rfl) ?_
            refine mw_icmp_eq (tgt := 1715) dL_law_835 rfl (fun c381 => ?_) (fun c381 => ?_)
            · rw [if_pos c381] at hf
              refine mw_iinc (x := v3) (v := v3 + 6) dL_law_1715 rfl rfl (by decide) rfl ?_
              refine mw_goto (tgt := 18) dL_law_1718 rfl ?_
              exact MW.sub (subL_s (subL_s (subL_s (subL_s subL_nil)))) (MW.more (Nat.le_refl _) (by omega) (by omega) (ih _ _ _ _ _ _ hf hX1721))
            · rw [if_neg c381] at hf
              cases hf
          refine mw_if_eq (tgt := 826) dL_law_819 rfl (fun c370 => ?_) (fun c370 => ?_)
          · rw [if_pos c370] at r373
            refine mw_iconst (v := 0) dL_law_826 (by decide) ?_
            obtain ⟨rfl, rfl⟩ := y1 r373
            exact MW.sub (subL_s (subL_s (subL_s (subL_s subL_nil)))) (MW.more (Nat.le_refl _) (Nat.le_refl _) (Nat.le_refl _) J834)
          · rw [if_neg c370] at r373
            refine mw_iconst (v := 1) dL_law_822 (by decide) ?_
            refine mw_goto (tgt := 827) dL_law_823 rfl ?_
            obtain ⟨rfl, rfl⟩ := y1 r373
            exact MW.sub (subL_s (subL_s (subL_s (subL_s subL_nil)))) (MW.more (Nat.le_refl _) (Nat.le_refl _) (Nat.le_refl _) J834)
        refine mw_if_eq (tgt := 789) dL_law_782 rfl (fun c351 => ?_) (fun c351 => ?_)
        · rw [if_pos c351] at r354
          refine mw_iconst (v := 0) dL_law_789 (by decide) ?_
          obtain ⟨rfl, rfl⟩ := y1 r354
          exact MW.sub (subL_s (subL_s (subL_s (subL_s subL_nil)))) (MW.more (Nat.le_refl _) (Nat.le_refl _) (Nat.le_refl _) J833)
        · rw [if_neg c351] at r354
          refine mw_iconst (v := 1) dL_law_785 (by decide) ?_
          refine mw_goto (tgt := 790) dL_law_786 rfl ?_
          obtain ⟨rfl, rfl⟩ := y1 r354
          exact MW.sub (subL_s (subL_s (subL_s (subL_s subL_nil)))) (MW.more (Nat.le_refl _) (Nat.le_refl _) (Nat.le_refl _) J833)
      rw [if_neg c825] at hf
      by_cases c825 : (x12 &&& (31 : Int32)) = 16
      · rw [if_pos c825] at hf
        refine ml_tableIn (v := 16) (tgt := 840) dL_law_33 c825 (by decide) (by decide) rfl rfl ?_
        refine mw_aload_n (x := q1) dL_law_840 rfl ?_
        refine mw_aload_n (x := q0) dL_law_841 rfl ?_
        refine mw_iload_n (x := v3) dL_law_842 rfl ?_
        refine mw_iconst (v := 1) dL_law_843 (by decide) ?_
        refine mw_iadd dL_law_844 ?_
        obtain ⟨x382, e383, hf⟩ := ob hf
        refine ml_iald dL_law_845 e383 ?_
        refine mw_aload_n (x := q0) dL_law_846 rfl ?_
        refine mw_iload_n (x := v3) dL_law_847 rfl ?_
        refine mw_iconst (v := 2) dL_law_848 (by decide) ?_
        refine mw_iadd dL_law_849 ?_
        obtain ⟨x384, e385, hf⟩ := ob hf
        refine ml_iald dL_law_850 e385 ?_
        refine mw_aload_n (x := q0) dL_law_851 rfl ?_
        refine mw_iload_n (x := v3) dL_law_852 rfl ?_
        refine mw_iconst (v := 3) dL_law_853 (by decide) ?_
        refine mw_iadd dL_law_854 ?_
        obtain ⟨x386, e387, hf⟩ := ob hf
        refine ml_iald dL_law_855 e387 ?_
        refine mw_aload_n (x := q0) dL_law_856 rfl ?_
        refine mw_iload_n (x := v3) dL_law_857 rfl ?_
        refine mw_iconst (v := 4) dL_law_858 (by decide) ?_
        refine mw_iadd dL_law_859 ?_
        obtain ⟨x388, e389, hf⟩ := ob hf
        refine ml_iald dL_law_860 e389 ?_
        obtain ⟨w391, h392, r393, hf⟩ := ob1 hf
        have J835 : MW E m_L_law (d + 206) (28 * n + 28) (10859 * n + 10859) 869 [some (vq q0), some (vq q1), some (vq q2), some (vi v3)] [vi w391, vi x386, vi x384, vi x382, vq q1] h392 K := by
          refine mw_aload_n (x := q0) dL_law_869 rfl ?_
          refine mw_iload_n (x := v3) dL_law_870 rfl ?_
          refine mw_iconst (v := 5) dL_law_871 (by decide) ?_
          refine mw_iadd dL_law_872 ?_
          obtain ⟨x394, e395, hf⟩ := ob hf
          refine ml_iald dL_law_873 e395 ?_
          obtain ⟨g398, e399, hf⟩ := ob hf
          obtain ⟨x400, h396, e397, hf⟩ := ob1 hf
          refine ml_callV (ci := 7) (mc := 28 * n + 28) (ms := 10859 * n + 10859) (mc' := 0) (ms' := 0) [vi x382, vi x384, vi x386, vi w391, vi x394] dL_law_874 mk_X8_empty lk_RL_86 im_X8_empty se_X8_empty (by decide) e399 rfl (Nat.le_of_ble_eq_true rfl) (Nat.le_of_ble_eq_true rfl) (t_X8_empty E _ e397 isR_rfl) ?_
          refine mw_aload_n (x := q2) dL_law_877 rfl ?_
          refine mw_aload_n (x := q0) dL_law_878 rfl ?_
          refine mw_iload_n (x := v3) dL_law_879 rfl ?_
          refine mw_iconst (v := 1) dL_law_880 (by decide) ?_
          refine mw_iadd dL_law_881 ?_
          obtain ⟨x401, e402, hf⟩ := ob hf
          refine ml_iald dL_law_882 e402 ?_
          refine mw_aload_n (x := q0) dL_law_883 rfl ?_
          refine mw_iload_n (x := v3) dL_law_884 rfl ?_
          refine mw_iconst (v := 2) dL_law_885 (by decide) ?_
          refine mw_iadd dL_law_886 ?_
          obtain ⟨x403, e404, hf⟩ := ob hf
          refine ml_iald dL_law_887 e404 ?_
          refine mw_aload_n (x := q0) dL_law_888 rfl ?_
          refine mw_iload_n (x := v3) dL_law_889 rfl ?_
          refine mw_iconst (v := 3) dL_law_890 (by decide) ?_
          refine mw_iadd dL_law_891 ?_
          obtain ⟨x405, e406, hf⟩ := ob hf
          refine ml_iald dL_law_892 e406 ?_
          refine mw_aload_n (x := q0) dL_law_893 rfl ?_
          refine mw_iload_n (x := v3) dL_law_894 rfl ?_
          refine mw_iconst (v := 4) dL_law_895 (by decide) ?_
          refine mw_iadd dL_law_896 ?_
          obtain ⟨x407, e408, hf⟩ := ob hf
          refine ml_iald dL_law_897 e408 ?_
          obtain ⟨w410, h411, r412, hf⟩ := ob1 hf
          have J836 : MW E m_L_law (d + 206) (28 * n + 28) (10859 * n + 10859) 906 [some (vq q0), some (vq q1), some (vq q2), some (vi v3)] [vi w410, vi x405, vi x403, vi x401, vq q2, vi x400] h411 K := by
            refine mw_aload_n (x := q0) dL_law_906 rfl ?_
            refine mw_iload_n (x := v3) dL_law_907 rfl ?_
            refine mw_iconst (v := 5) dL_law_908 (by decide) ?_
            refine mw_iadd dL_law_909 ?_
            obtain ⟨x413, e414, hf⟩ := ob hf
            refine ml_iald dL_law_910 e414 ?_
            obtain ⟨g417, e418, hf⟩ := ob hf
            obtain ⟨x419, h415, e416, hf⟩ := ob1 hf
            refine ml_callV (ci := 8) (mc := 28 * n + 28) (ms := 10859 * n + 10859) (mc' := 0) (ms' := 0) [vi x401, vi x403, vi x405, vi w410, vi x413] dL_law_911 mk_X9_empty lk_RL_89 im_X9_empty se_X9_empty (by decide) e418 rfl (Nat.le_of_ble_eq_true rfl) (Nat.le_of_ble_eq_true rfl) (t_X9_empty E _ e416 isR_rfl) ?_
            refine mw_icmp_eq (tgt := 1715) dL_law_914 rfl (fun c420 => ?_) (fun c420 => ?_)
            · rw [if_pos c420] at hf
              refine mw_iinc (x := v3) (v := v3 + 6) dL_law_1715 rfl rfl (by decide) rfl ?_
              refine mw_goto (tgt := 18) dL_law_1718 rfl ?_
              exact MW.sub (subL_s (subL_s (subL_s (subL_s subL_nil)))) (MW.more (Nat.le_refl _) (by omega) (by omega) (ih _ _ _ _ _ _ hf hX1721))
            · rw [if_neg c420] at hf
              cases hf
          refine mw_if_eq (tgt := 905) dL_law_898 rfl (fun c409 => ?_) (fun c409 => ?_)
          · rw [if_pos c409] at r412
            refine mw_iconst (v := 0) dL_law_905 (by decide) ?_
            obtain ⟨rfl, rfl⟩ := y1 r412
            exact MW.sub (subL_s (subL_s (subL_s (subL_s subL_nil)))) (MW.more (Nat.le_refl _) (Nat.le_refl _) (Nat.le_refl _) J836)
          · rw [if_neg c409] at r412
            refine mw_iconst (v := 1) dL_law_901 (by decide) ?_
            refine mw_goto (tgt := 906) dL_law_902 rfl ?_
            obtain ⟨rfl, rfl⟩ := y1 r412
            exact MW.sub (subL_s (subL_s (subL_s (subL_s subL_nil)))) (MW.more (Nat.le_refl _) (Nat.le_refl _) (Nat.le_refl _) J836)
        refine mw_if_eq (tgt := 868) dL_law_861 rfl (fun c390 => ?_) (fun c390 => ?_)
        · rw [if_pos c390] at r393
          refine mw_iconst (v := 0) dL_law_868 (by decide) ?_
          obtain ⟨rfl, rfl⟩ := y1 r393
          exact MW.sub (subL_s (subL_s (subL_s (subL_s subL_nil)))) (MW.more (Nat.le_refl _) (Nat.le_refl _) (Nat.le_refl _) J835)
        · rw [if_neg c390] at r393
          refine mw_iconst (v := 1) dL_law_864 (by decide) ?_
          refine mw_goto (tgt := 869) dL_law_865 rfl ?_
          obtain ⟨rfl, rfl⟩ := y1 r393
          exact MW.sub (subL_s (subL_s (subL_s (subL_s subL_nil)))) (MW.more (Nat.le_refl _) (Nat.le_refl _) (Nat.le_refl _) J835)
      rw [if_neg c825] at hf
      by_cases c825 : (x12 &&& (31 : Int32)) = 17
      · rw [if_pos c825] at hf
        refine ml_tableIn (v := 17) (tgt := 919) dL_law_33 c825 (by decide) (by decide) rfl rfl ?_
        refine mw_aload_n (x := q1) dL_law_919 rfl ?_
        refine mw_aload_n (x := q0) dL_law_920 rfl ?_
        refine mw_iload_n (x := v3) dL_law_921 rfl ?_
        refine mw_iconst (v := 1) dL_law_922 (by decide) ?_
        refine mw_iadd dL_law_923 ?_
        obtain ⟨x421, e422, hf⟩ := ob hf
        refine ml_iald dL_law_924 e422 ?_
        refine mw_aload_n (x := q0) dL_law_925 rfl ?_
        refine mw_iload_n (x := v3) dL_law_926 rfl ?_
        refine mw_iconst (v := 2) dL_law_927 (by decide) ?_
        refine mw_iadd dL_law_928 ?_
        obtain ⟨x423, e424, hf⟩ := ob hf
        refine ml_iald dL_law_929 e424 ?_
        refine mw_aload_n (x := q0) dL_law_930 rfl ?_
        refine mw_iload_n (x := v3) dL_law_931 rfl ?_
        refine mw_iconst (v := 3) dL_law_932 (by decide) ?_
        refine mw_iadd dL_law_933 ?_
        obtain ⟨x425, e426, hf⟩ := ob hf
        refine ml_iald dL_law_934 e426 ?_
        obtain ⟨w428, h429, r430, hf⟩ := ob1 hf
        have J837 : MW E m_L_law (d + 206) (28 * n + 28) (10859 * n + 10859) 943 [some (vq q0), some (vq q1), some (vq q2), some (vi v3)] [vi w428, vi x423, vi x421, vq q1] h429 K := by
          refine mw_aload_n (x := q0) dL_law_943 rfl ?_
          refine mw_iload_n (x := v3) dL_law_944 rfl ?_
          refine mw_iconst (v := 4) dL_law_945 (by decide) ?_
          refine mw_iadd dL_law_946 ?_
          obtain ⟨x431, e432, hf⟩ := ob hf
          refine ml_iald dL_law_947 e432 ?_
          obtain ⟨g435, e436, hf⟩ := ob hf
          obtain ⟨x437, h433, e434, hf⟩ := ob1 hf
          refine ml_callV (ci := 7) (mc := 28 * n + 28) (ms := 10859 * n + 10859) (mc' := 0) (ms' := 0) [vi x421, vi x423, vi w428, vi x431] dL_law_948 mk_X8_average lk_RL_90 im_X8_average se_X8_average (by decide) e436 rfl (Nat.le_of_ble_eq_true rfl) (Nat.le_of_ble_eq_true rfl) (t_X8_average E _ e434 isR_rfl) ?_
          refine mw_aload_n (x := q2) dL_law_951 rfl ?_
          refine mw_aload_n (x := q0) dL_law_952 rfl ?_
          refine mw_iload_n (x := v3) dL_law_953 rfl ?_
          refine mw_iconst (v := 1) dL_law_954 (by decide) ?_
          refine mw_iadd dL_law_955 ?_
          obtain ⟨x438, e439, hf⟩ := ob hf
          refine ml_iald dL_law_956 e439 ?_
          refine mw_aload_n (x := q0) dL_law_957 rfl ?_
          refine mw_iload_n (x := v3) dL_law_958 rfl ?_
          refine mw_iconst (v := 2) dL_law_959 (by decide) ?_
          refine mw_iadd dL_law_960 ?_
          obtain ⟨x440, e441, hf⟩ := ob hf
          refine ml_iald dL_law_961 e441 ?_
          refine mw_aload_n (x := q0) dL_law_962 rfl ?_
          refine mw_iload_n (x := v3) dL_law_963 rfl ?_
          refine mw_iconst (v := 3) dL_law_964 (by decide) ?_
          refine mw_iadd dL_law_965 ?_
          obtain ⟨x442, e443, hf⟩ := ob hf
          refine ml_iald dL_law_966 e443 ?_
          obtain ⟨w445, h446, r447, hf⟩ := ob1 hf
          have J838 : MW E m_L_law (d + 206) (28 * n + 28) (10859 * n + 10859) 975 [some (vq q0), some (vq q1), some (vq q2), some (vi v3)] [vi w445, vi x440, vi x438, vq q2, vi x437] h446 K := by
            refine mw_aload_n (x := q0) dL_law_975 rfl ?_
            refine mw_iload_n (x := v3) dL_law_976 rfl ?_
            refine mw_iconst (v := 4) dL_law_977 (by decide) ?_
            refine mw_iadd dL_law_978 ?_
            obtain ⟨x448, e449, hf⟩ := ob hf
            refine ml_iald dL_law_979 e449 ?_
            obtain ⟨g452, e453, hf⟩ := ob hf
            obtain ⟨x454, h450, e451, hf⟩ := ob1 hf
            refine ml_callV (ci := 8) (mc := 28 * n + 28) (ms := 10859 * n + 10859) (mc' := 0) (ms' := 0) [vi x438, vi x440, vi w445, vi x448] dL_law_980 mk_X9_average lk_RL_93 im_X9_average se_X9_average (by decide) e453 rfl (Nat.le_of_ble_eq_true rfl) (Nat.le_of_ble_eq_true rfl) (t_X9_average E _ e451 isR_rfl) ?_
            refine mw_icmp_eq (tgt := 1715) dL_law_983 rfl (fun c455 => ?_) (fun c455 => ?_)
            · rw [if_pos c455] at hf
              refine mw_iinc (x := v3) (v := v3 + 6) dL_law_1715 rfl rfl (by decide) rfl ?_
              refine mw_goto (tgt := 18) dL_law_1718 rfl ?_
              exact MW.sub (subL_s (subL_s (subL_s (subL_s subL_nil)))) (MW.more (Nat.le_refl _) (by omega) (by omega) (ih _ _ _ _ _ _ hf hX1721))
            · rw [if_neg c455] at hf
              cases hf
          refine mw_if_eq (tgt := 974) dL_law_967 rfl (fun c444 => ?_) (fun c444 => ?_)
          · rw [if_pos c444] at r447
            refine mw_iconst (v := 0) dL_law_974 (by decide) ?_
            obtain ⟨rfl, rfl⟩ := y1 r447
            exact MW.sub (subL_s (subL_s (subL_s (subL_s subL_nil)))) (MW.more (Nat.le_refl _) (Nat.le_refl _) (Nat.le_refl _) J838)
          · rw [if_neg c444] at r447
            refine mw_iconst (v := 1) dL_law_970 (by decide) ?_
            refine mw_goto (tgt := 975) dL_law_971 rfl ?_
            obtain ⟨rfl, rfl⟩ := y1 r447
            exact MW.sub (subL_s (subL_s (subL_s (subL_s subL_nil)))) (MW.more (Nat.le_refl _) (Nat.le_refl _) (Nat.le_refl _) J838)
        refine mw_if_eq (tgt := 942) dL_law_935 rfl (fun c427 => ?_) (fun c427 => ?_)
        · rw [if_pos c427] at r430
          refine mw_iconst (v := 0) dL_law_942 (by decide) ?_
          obtain ⟨rfl, rfl⟩ := y1 r430
          exact MW.sub (subL_s (subL_s (subL_s (subL_s subL_nil)))) (MW.more (Nat.le_refl _) (Nat.le_refl _) (Nat.le_refl _) J837)
        · rw [if_neg c427] at r430
          refine mw_iconst (v := 1) dL_law_938 (by decide) ?_
          refine mw_goto (tgt := 943) dL_law_939 rfl ?_
          obtain ⟨rfl, rfl⟩ := y1 r430
          exact MW.sub (subL_s (subL_s (subL_s (subL_s subL_nil)))) (MW.more (Nat.le_refl _) (Nat.le_refl _) (Nat.le_refl _) J837)
      rw [if_neg c825] at hf
      by_cases c825 : (x12 &&& (31 : Int32)) = 18
      · rw [if_pos c825] at hf
        refine ml_tableIn (v := 18) (tgt := 988) dL_law_33 c825 (by decide) (by decide) rfl rfl ?_
        refine mw_aload_n (x := q1) dL_law_988 rfl ?_
        refine mw_aload_n (x := q0) dL_law_989 rfl ?_
        refine mw_iload_n (x := v3) dL_law_990 rfl ?_
        refine mw_iconst (v := 1) dL_law_991 (by decide) ?_
        refine mw_iadd dL_law_992 ?_
        obtain ⟨x456, e457, hf⟩ := ob hf
        refine ml_iald dL_law_993 e457 ?_
        refine mw_aload_n (x := q0) dL_law_994 rfl ?_
        refine mw_iload_n (x := v3) dL_law_995 rfl ?_
        refine mw_iconst (v := 2) dL_law_996 (by decide) ?_
        refine mw_iadd dL_law_997 ?_
        obtain ⟨x458, e459, hf⟩ := ob hf
        refine ml_iald dL_law_998 e459 ?_
        refine mw_aload_n (x := q0) dL_law_999 rfl ?_
        refine mw_iload_n (x := v3) dL_law_1000 rfl ?_
        refine mw_iconst (v := 3) dL_law_1001 (by decide) ?_
        refine mw_iadd dL_law_1002 ?_
        obtain ⟨x460, e461, hf⟩ := ob hf
        refine ml_iald dL_law_1003 e461 ?_
        obtain ⟨w463, h464, r465, hf⟩ := ob1 hf
        have J839 : MW E m_L_law (d + 206) (28 * n + 28) (10859 * n + 10859) 1012 [some (vq q0), some (vq q1), some (vq q2), some (vi v3)] [vi w463, vi x458, vi x456, vq q1] h464 K := by
          refine mw_aload_n (x := q0) dL_law_1012 rfl ?_
          refine mw_iload_n (x := v3) dL_law_1013 rfl ?_
          refine mw_iconst (v := 4) dL_law_1014 (by decide) ?_
          refine mw_iadd dL_law_1015 ?_
          obtain ⟨x466, e467, hf⟩ := ob hf
          refine ml_iald dL_law_1016 e467 ?_
          obtain ⟨g470, e471, hf⟩ := ob hf
          obtain ⟨x472, h468, e469, hf⟩ := ob1 hf
          refine ml_callV (ci := 7) (mc := 28 * n + 28) (ms := 10859 * n + 10859) (mc' := 0) (ms' := 0) [vi x456, vi x458, vi w463, vi x466] dL_law_1017 mk_X8_weeks lk_RL_94 im_X8_weeks se_X8_weeks (by decide) e471 rfl (Nat.le_of_ble_eq_true rfl) (Nat.le_of_ble_eq_true rfl) (t_X8_weeks E _ e469 isR_rfl) ?_
          refine mw_aload_n (x := q2) dL_law_1020 rfl ?_
          refine mw_aload_n (x := q0) dL_law_1021 rfl ?_
          refine mw_iload_n (x := v3) dL_law_1022 rfl ?_
          refine mw_iconst (v := 1) dL_law_1023 (by decide) ?_
          refine mw_iadd dL_law_1024 ?_
          obtain ⟨x473, e474, hf⟩ := ob hf
          refine ml_iald dL_law_1025 e474 ?_
          refine mw_aload_n (x := q0) dL_law_1026 rfl ?_
          refine mw_iload_n (x := v3) dL_law_1027 rfl ?_
          refine mw_iconst (v := 2) dL_law_1028 (by decide) ?_
          refine mw_iadd dL_law_1029 ?_
          obtain ⟨x475, e476, hf⟩ := ob hf
          refine ml_iald dL_law_1030 e476 ?_
          refine mw_aload_n (x := q0) dL_law_1031 rfl ?_
          refine mw_iload_n (x := v3) dL_law_1032 rfl ?_
          refine mw_iconst (v := 3) dL_law_1033 (by decide) ?_
          refine mw_iadd dL_law_1034 ?_
          obtain ⟨x477, e478, hf⟩ := ob hf
          refine ml_iald dL_law_1035 e478 ?_
          obtain ⟨w480, h481, r482, hf⟩ := ob1 hf
          have J840 : MW E m_L_law (d + 206) (28 * n + 28) (10859 * n + 10859) 1044 [some (vq q0), some (vq q1), some (vq q2), some (vi v3)] [vi w480, vi x475, vi x473, vq q2, vi x472] h481 K := by
            refine mw_aload_n (x := q0) dL_law_1044 rfl ?_
            refine mw_iload_n (x := v3) dL_law_1045 rfl ?_
            refine mw_iconst (v := 4) dL_law_1046 (by decide) ?_
            refine mw_iadd dL_law_1047 ?_
            obtain ⟨x483, e484, hf⟩ := ob hf
            refine ml_iald dL_law_1048 e484 ?_
            obtain ⟨g487, e488, hf⟩ := ob hf
            obtain ⟨x489, h485, e486, hf⟩ := ob1 hf
            refine ml_callV (ci := 8) (mc := 28 * n + 28) (ms := 10859 * n + 10859) (mc' := 0) (ms' := 0) [vi x473, vi x475, vi w480, vi x483] dL_law_1049 mk_X9_weeks lk_RL_97 im_X9_weeks se_X9_weeks (by decide) e488 rfl (Nat.le_of_ble_eq_true rfl) (Nat.le_of_ble_eq_true rfl) (t_X9_weeks E _ e486 isR_rfl) ?_
            refine mw_icmp_eq (tgt := 1715) dL_law_1052 rfl (fun c490 => ?_) (fun c490 => ?_)
            · rw [if_pos c490] at hf
              refine mw_iinc (x := v3) (v := v3 + 6) dL_law_1715 rfl rfl (by decide) rfl ?_
              refine mw_goto (tgt := 18) dL_law_1718 rfl ?_
              exact MW.sub (subL_s (subL_s (subL_s (subL_s subL_nil)))) (MW.more (Nat.le_refl _) (by omega) (by omega) (ih _ _ _ _ _ _ hf hX1721))
            · rw [if_neg c490] at hf
              cases hf
          refine mw_if_eq (tgt := 1043) dL_law_1036 rfl (fun c479 => ?_) (fun c479 => ?_)
          · rw [if_pos c479] at r482
            refine mw_iconst (v := 0) dL_law_1043 (by decide) ?_
            obtain ⟨rfl, rfl⟩ := y1 r482
            exact MW.sub (subL_s (subL_s (subL_s (subL_s subL_nil)))) (MW.more (Nat.le_refl _) (Nat.le_refl _) (Nat.le_refl _) J840)
          · rw [if_neg c479] at r482
            refine mw_iconst (v := 1) dL_law_1039 (by decide) ?_
            refine mw_goto (tgt := 1044) dL_law_1040 rfl ?_
            obtain ⟨rfl, rfl⟩ := y1 r482
            exact MW.sub (subL_s (subL_s (subL_s (subL_s subL_nil)))) (MW.more (Nat.le_refl _) (Nat.le_refl _) (Nat.le_refl _) J840)
        refine mw_if_eq (tgt := 1011) dL_law_1004 rfl (fun c462 => ?_) (fun c462 => ?_)
        · rw [if_pos c462] at r465
          refine mw_iconst (v := 0) dL_law_1011 (by decide) ?_
          obtain ⟨rfl, rfl⟩ := y1 r465
          exact MW.sub (subL_s (subL_s (subL_s (subL_s subL_nil)))) (MW.more (Nat.le_refl _) (Nat.le_refl _) (Nat.le_refl _) J839)
        · rw [if_neg c462] at r465
          refine mw_iconst (v := 1) dL_law_1007 (by decide) ?_
          refine mw_goto (tgt := 1012) dL_law_1008 rfl ?_
          obtain ⟨rfl, rfl⟩ := y1 r465
          exact MW.sub (subL_s (subL_s (subL_s (subL_s subL_nil)))) (MW.more (Nat.le_refl _) (Nat.le_refl _) (Nat.le_refl _) J839)
      rw [if_neg c825] at hf
      by_cases c825 : (x12 &&& (31 : Int32)) = 19
      · rw [if_pos c825] at hf
        refine ml_tableIn (v := 19) (tgt := 1057) dL_law_33 c825 (by decide) (by decide) rfl rfl ?_
        refine mw_aload_n (x := q1) dL_law_1057 rfl ?_
        refine mw_aload_n (x := q0) dL_law_1058 rfl ?_
        refine mw_iload_n (x := v3) dL_law_1059 rfl ?_
        refine mw_iconst (v := 1) dL_law_1060 (by decide) ?_
        refine mw_iadd dL_law_1061 ?_
        obtain ⟨x491, e492, hf⟩ := ob hf
        refine ml_iald dL_law_1062 e492 ?_
        refine mw_aload_n (x := q0) dL_law_1063 rfl ?_
        refine mw_iload_n (x := v3) dL_law_1064 rfl ?_
        refine mw_iconst (v := 2) dL_law_1065 (by decide) ?_
        refine mw_iadd dL_law_1066 ?_
        obtain ⟨x493, e494, hf⟩ := ob hf
        refine ml_iald dL_law_1067 e494 ?_
        refine mw_aload_n (x := q0) dL_law_1068 rfl ?_
        refine mw_iload_n (x := v3) dL_law_1069 rfl ?_
        refine mw_iconst (v := 3) dL_law_1070 (by decide) ?_
        refine mw_iadd dL_law_1071 ?_
        obtain ⟨x495, e496, hf⟩ := ob hf
        refine ml_iald dL_law_1072 e496 ?_
        obtain ⟨w498, h499, r500, hf⟩ := ob1 hf
        have J841 : MW E m_L_law (d + 206) (28 * n + 28) (10859 * n + 10859) 1081 [some (vq q0), some (vq q1), some (vq q2), some (vi v3)] [vi w498, vi x493, vi x491, vq q1] h499 K := by
          refine mw_aload_n (x := q0) dL_law_1081 rfl ?_
          refine mw_iload_n (x := v3) dL_law_1082 rfl ?_
          refine mw_iconst (v := 4) dL_law_1083 (by decide) ?_
          refine mw_iadd dL_law_1084 ?_
          obtain ⟨x501, e502, hf⟩ := ob hf
          refine ml_iald dL_law_1085 e502 ?_
          obtain ⟨g505, e506, hf⟩ := ob hf
          obtain ⟨x507, h503, e504, hf⟩ := ob1 hf
          refine ml_callV (ci := 7) (mc := 28 * n + 28) (ms := 10859 * n + 10859) (mc' := 0) (ms' := 0) [vi x491, vi x493, vi w498, vi x501] dL_law_1086 mk_X8_owed lk_RL_98 im_X8_owed se_X8_owed (by decide) e506 rfl (Nat.le_of_ble_eq_true rfl) (Nat.le_of_ble_eq_true rfl) (t_X8_owed E _ e504 isR_rfl) ?_
          refine mw_aload_n (x := q2) dL_law_1089 rfl ?_
          refine mw_aload_n (x := q0) dL_law_1090 rfl ?_
          refine mw_iload_n (x := v3) dL_law_1091 rfl ?_
          refine mw_iconst (v := 1) dL_law_1092 (by decide) ?_
          refine mw_iadd dL_law_1093 ?_
          obtain ⟨x508, e509, hf⟩ := ob hf
          refine ml_iald dL_law_1094 e509 ?_
          refine mw_aload_n (x := q0) dL_law_1095 rfl ?_
          refine mw_iload_n (x := v3) dL_law_1096 rfl ?_
          refine mw_iconst (v := 2) dL_law_1097 (by decide) ?_
          refine mw_iadd dL_law_1098 ?_
          obtain ⟨x510, e511, hf⟩ := ob hf
          refine ml_iald dL_law_1099 e511 ?_
          refine mw_aload_n (x := q0) dL_law_1100 rfl ?_
          refine mw_iload_n (x := v3) dL_law_1101 rfl ?_
          refine mw_iconst (v := 3) dL_law_1102 (by decide) ?_
          refine mw_iadd dL_law_1103 ?_
          obtain ⟨x512, e513, hf⟩ := ob hf
          refine ml_iald dL_law_1104 e513 ?_
          obtain ⟨w515, h516, r517, hf⟩ := ob1 hf
          have J842 : MW E m_L_law (d + 206) (28 * n + 28) (10859 * n + 10859) 1113 [some (vq q0), some (vq q1), some (vq q2), some (vi v3)] [vi w515, vi x510, vi x508, vq q2, vi x507] h516 K := by
            refine mw_aload_n (x := q0) dL_law_1113 rfl ?_
            refine mw_iload_n (x := v3) dL_law_1114 rfl ?_
            refine mw_iconst (v := 4) dL_law_1115 (by decide) ?_
            refine mw_iadd dL_law_1116 ?_
            obtain ⟨x518, e519, hf⟩ := ob hf
            refine ml_iald dL_law_1117 e519 ?_
            obtain ⟨g522, e523, hf⟩ := ob hf
            obtain ⟨x524, h520, e521, hf⟩ := ob1 hf
            refine ml_callV (ci := 8) (mc := 28 * n + 28) (ms := 10859 * n + 10859) (mc' := 0) (ms' := 0) [vi x508, vi x510, vi w515, vi x518] dL_law_1118 mk_X9_owed lk_RL_101 im_X9_owed se_X9_owed (by decide) e523 rfl (Nat.le_of_ble_eq_true rfl) (Nat.le_of_ble_eq_true rfl) (t_X9_owed E _ e521 isR_rfl) ?_
            refine mw_icmp_eq (tgt := 1715) dL_law_1121 rfl (fun c525 => ?_) (fun c525 => ?_)
            · rw [if_pos c525] at hf
              refine mw_iinc (x := v3) (v := v3 + 6) dL_law_1715 rfl rfl (by decide) rfl ?_
              refine mw_goto (tgt := 18) dL_law_1718 rfl ?_
              exact MW.sub (subL_s (subL_s (subL_s (subL_s subL_nil)))) (MW.more (Nat.le_refl _) (by omega) (by omega) (ih _ _ _ _ _ _ hf hX1721))
            · rw [if_neg c525] at hf
              cases hf
          refine mw_if_eq (tgt := 1112) dL_law_1105 rfl (fun c514 => ?_) (fun c514 => ?_)
          · rw [if_pos c514] at r517
            refine mw_iconst (v := 0) dL_law_1112 (by decide) ?_
            obtain ⟨rfl, rfl⟩ := y1 r517
            exact MW.sub (subL_s (subL_s (subL_s (subL_s subL_nil)))) (MW.more (Nat.le_refl _) (Nat.le_refl _) (Nat.le_refl _) J842)
          · rw [if_neg c514] at r517
            refine mw_iconst (v := 1) dL_law_1108 (by decide) ?_
            refine mw_goto (tgt := 1113) dL_law_1109 rfl ?_
            obtain ⟨rfl, rfl⟩ := y1 r517
            exact MW.sub (subL_s (subL_s (subL_s (subL_s subL_nil)))) (MW.more (Nat.le_refl _) (Nat.le_refl _) (Nat.le_refl _) J842)
        refine mw_if_eq (tgt := 1080) dL_law_1073 rfl (fun c497 => ?_) (fun c497 => ?_)
        · rw [if_pos c497] at r500
          refine mw_iconst (v := 0) dL_law_1080 (by decide) ?_
          obtain ⟨rfl, rfl⟩ := y1 r500
          exact MW.sub (subL_s (subL_s (subL_s (subL_s subL_nil)))) (MW.more (Nat.le_refl _) (Nat.le_refl _) (Nat.le_refl _) J841)
        · rw [if_neg c497] at r500
          refine mw_iconst (v := 1) dL_law_1076 (by decide) ?_
          refine mw_goto (tgt := 1081) dL_law_1077 rfl ?_
          obtain ⟨rfl, rfl⟩ := y1 r500
          exact MW.sub (subL_s (subL_s (subL_s (subL_s subL_nil)))) (MW.more (Nat.le_refl _) (Nat.le_refl _) (Nat.le_refl _) J841)
      rw [if_neg c825] at hf
      by_cases c825 : (x12 &&& (31 : Int32)) = 20
      · rw [if_pos c825] at hf
        refine ml_tableIn (v := 20) (tgt := 1126) dL_law_33 c825 (by decide) (by decide) rfl rfl ?_
        refine mw_aload_n (x := q1) dL_law_1126 rfl ?_
        refine mw_aload_n (x := q0) dL_law_1127 rfl ?_
        refine mw_iload_n (x := v3) dL_law_1128 rfl ?_
        refine mw_iconst (v := 1) dL_law_1129 (by decide) ?_
        refine mw_iadd dL_law_1130 ?_
        obtain ⟨x526, e527, hf⟩ := ob hf
        refine ml_iald dL_law_1131 e527 ?_
        refine mw_aload_n (x := q0) dL_law_1132 rfl ?_
        refine mw_iload_n (x := v3) dL_law_1133 rfl ?_
        refine mw_iconst (v := 2) dL_law_1134 (by decide) ?_
        refine mw_iadd dL_law_1135 ?_
        obtain ⟨x528, e529, hf⟩ := ob hf
        refine ml_iald dL_law_1136 e529 ?_
        refine mw_aload_n (x := q0) dL_law_1137 rfl ?_
        refine mw_iload_n (x := v3) dL_law_1138 rfl ?_
        refine mw_iconst (v := 3) dL_law_1139 (by decide) ?_
        refine mw_iadd dL_law_1140 ?_
        obtain ⟨x530, e531, hf⟩ := ob hf
        refine ml_iald dL_law_1141 e531 ?_
        obtain ⟨w533, h534, r535, hf⟩ := ob1 hf
        have J843 : MW E m_L_law (d + 206) (28 * n + 28) (10859 * n + 10859) 1150 [some (vq q0), some (vq q1), some (vq q2), some (vi v3)] [vi w533, vi x528, vi x526, vq q1] h534 K := by
          refine mw_aload_n (x := q0) dL_law_1150 rfl ?_
          refine mw_iload_n (x := v3) dL_law_1151 rfl ?_
          refine mw_iconst (v := 4) dL_law_1152 (by decide) ?_
          refine mw_iadd dL_law_1153 ?_
          obtain ⟨x536, e537, hf⟩ := ob hf
          refine ml_iald dL_law_1154 e537 ?_
          obtain ⟨g540, e541, hf⟩ := ob hf
          obtain ⟨x542, h538, e539, hf⟩ := ob1 hf
          refine ml_callV (ci := 7) (mc := 28 * n + 28) (ms := 10859 * n + 10859) (mc' := 0) (ms' := 0) [vi x526, vi x528, vi w533, vi x536] dL_law_1155 mk_X8_chain lk_RL_102 im_X8_chain se_X8_chain (by decide) e541 rfl (Nat.le_of_ble_eq_true rfl) (Nat.le_of_ble_eq_true rfl) (t_X8_chain E _ e539 isR_rfl) ?_
          refine mw_aload_n (x := q2) dL_law_1158 rfl ?_
          refine mw_aload_n (x := q0) dL_law_1159 rfl ?_
          refine mw_iload_n (x := v3) dL_law_1160 rfl ?_
          refine mw_iconst (v := 1) dL_law_1161 (by decide) ?_
          refine mw_iadd dL_law_1162 ?_
          obtain ⟨x543, e544, hf⟩ := ob hf
          refine ml_iald dL_law_1163 e544 ?_
          refine mw_aload_n (x := q0) dL_law_1164 rfl ?_
          refine mw_iload_n (x := v3) dL_law_1165 rfl ?_
          refine mw_iconst (v := 2) dL_law_1166 (by decide) ?_
          refine mw_iadd dL_law_1167 ?_
          obtain ⟨x545, e546, hf⟩ := ob hf
          refine ml_iald dL_law_1168 e546 ?_
          refine mw_aload_n (x := q0) dL_law_1169 rfl ?_
          refine mw_iload_n (x := v3) dL_law_1170 rfl ?_
          refine mw_iconst (v := 3) dL_law_1171 (by decide) ?_
          refine mw_iadd dL_law_1172 ?_
          obtain ⟨x547, e548, hf⟩ := ob hf
          refine ml_iald dL_law_1173 e548 ?_
          obtain ⟨w550, h551, r552, hf⟩ := ob1 hf
          have J844 : MW E m_L_law (d + 206) (28 * n + 28) (10859 * n + 10859) 1182 [some (vq q0), some (vq q1), some (vq q2), some (vi v3)] [vi w550, vi x545, vi x543, vq q2, vi x542] h551 K := by
            refine mw_aload_n (x := q0) dL_law_1182 rfl ?_
            refine mw_iload_n (x := v3) dL_law_1183 rfl ?_
            refine mw_iconst (v := 4) dL_law_1184 (by decide) ?_
            refine mw_iadd dL_law_1185 ?_
            obtain ⟨x553, e554, hf⟩ := ob hf
            refine ml_iald dL_law_1186 e554 ?_
            obtain ⟨g557, e558, hf⟩ := ob hf
            obtain ⟨x559, h555, e556, hf⟩ := ob1 hf
            refine ml_callV (ci := 8) (mc := 28 * n + 28) (ms := 10859 * n + 10859) (mc' := 0) (ms' := 0) [vi x543, vi x545, vi w550, vi x553] dL_law_1187 mk_X9_chain lk_RL_105 im_X9_chain se_X9_chain (by decide) e558 rfl (Nat.le_of_ble_eq_true rfl) (Nat.le_of_ble_eq_true rfl) (t_X9_chain E _ e556 isR_rfl) ?_
            refine mw_icmp_eq (tgt := 1715) dL_law_1190 rfl (fun c560 => ?_) (fun c560 => ?_)
            · rw [if_pos c560] at hf
              refine mw_iinc (x := v3) (v := v3 + 6) dL_law_1715 rfl rfl (by decide) rfl ?_
              refine mw_goto (tgt := 18) dL_law_1718 rfl ?_
              exact MW.sub (subL_s (subL_s (subL_s (subL_s subL_nil)))) (MW.more (Nat.le_refl _) (by omega) (by omega) (ih _ _ _ _ _ _ hf hX1721))
            · rw [if_neg c560] at hf
              cases hf
          refine mw_if_eq (tgt := 1181) dL_law_1174 rfl (fun c549 => ?_) (fun c549 => ?_)
          · rw [if_pos c549] at r552
            refine mw_iconst (v := 0) dL_law_1181 (by decide) ?_
            obtain ⟨rfl, rfl⟩ := y1 r552
            exact MW.sub (subL_s (subL_s (subL_s (subL_s subL_nil)))) (MW.more (Nat.le_refl _) (Nat.le_refl _) (Nat.le_refl _) J844)
          · rw [if_neg c549] at r552
            refine mw_iconst (v := 1) dL_law_1177 (by decide) ?_
            refine mw_goto (tgt := 1182) dL_law_1178 rfl ?_
            obtain ⟨rfl, rfl⟩ := y1 r552
            exact MW.sub (subL_s (subL_s (subL_s (subL_s subL_nil)))) (MW.more (Nat.le_refl _) (Nat.le_refl _) (Nat.le_refl _) J844)
        refine mw_if_eq (tgt := 1149) dL_law_1142 rfl (fun c532 => ?_) (fun c532 => ?_)
        · rw [if_pos c532] at r535
          refine mw_iconst (v := 0) dL_law_1149 (by decide) ?_
          obtain ⟨rfl, rfl⟩ := y1 r535
          exact MW.sub (subL_s (subL_s (subL_s (subL_s subL_nil)))) (MW.more (Nat.le_refl _) (Nat.le_refl _) (Nat.le_refl _) J843)
        · rw [if_neg c532] at r535
          refine mw_iconst (v := 1) dL_law_1145 (by decide) ?_
          refine mw_goto (tgt := 1150) dL_law_1146 rfl ?_
          obtain ⟨rfl, rfl⟩ := y1 r535
          exact MW.sub (subL_s (subL_s (subL_s (subL_s subL_nil)))) (MW.more (Nat.le_refl _) (Nat.le_refl _) (Nat.le_refl _) J843)
      rw [if_neg c825] at hf
      by_cases c825 : (x12 &&& (31 : Int32)) = 21
      · rw [if_pos c825] at hf
        refine ml_tableIn (v := 21) (tgt := 1195) dL_law_33 c825 (by decide) (by decide) rfl rfl ?_
        refine mw_aload_n (x := q1) dL_law_1195 rfl ?_
        refine mw_aload_n (x := q0) dL_law_1196 rfl ?_
        refine mw_iload_n (x := v3) dL_law_1197 rfl ?_
        refine mw_iconst (v := 1) dL_law_1198 (by decide) ?_
        refine mw_iadd dL_law_1199 ?_
        obtain ⟨x561, e562, hf⟩ := ob hf
        refine ml_iald dL_law_1200 e562 ?_
        refine mw_aload_n (x := q0) dL_law_1201 rfl ?_
        refine mw_iload_n (x := v3) dL_law_1202 rfl ?_
        refine mw_iconst (v := 2) dL_law_1203 (by decide) ?_
        refine mw_iadd dL_law_1204 ?_
        obtain ⟨x563, e564, hf⟩ := ob hf
        refine ml_iald dL_law_1205 e564 ?_
        refine mw_aload_n (x := q0) dL_law_1206 rfl ?_
        refine mw_iload_n (x := v3) dL_law_1207 rfl ?_
        refine mw_iconst (v := 3) dL_law_1208 (by decide) ?_
        refine mw_iadd dL_law_1209 ?_
        obtain ⟨x565, e566, hf⟩ := ob hf
        refine ml_iald dL_law_1210 e566 ?_
        refine mw_aload_n (x := q0) dL_law_1211 rfl ?_
        refine mw_iload_n (x := v3) dL_law_1212 rfl ?_
        refine mw_iconst (v := 4) dL_law_1213 (by decide) ?_
        refine mw_iadd dL_law_1214 ?_
        obtain ⟨x567, e568, hf⟩ := ob hf
        refine ml_iald dL_law_1215 e568 ?_
        obtain ⟨w570, h571, r572, hf⟩ := ob1 hf
        have J845 : MW E m_L_law (d + 206) (28 * n + 28) (10859 * n + 10859) 1224 [some (vq q0), some (vq q1), some (vq q2), some (vi v3)] [vi w570, vi x565, vi x563, vi x561, vq q1] h571 K := by
          refine mw_aload_n (x := q0) dL_law_1224 rfl ?_
          refine mw_iload_n (x := v3) dL_law_1225 rfl ?_
          refine mw_iconst (v := 5) dL_law_1226 (by decide) ?_
          refine mw_iadd dL_law_1227 ?_
          obtain ⟨x573, e574, hf⟩ := ob hf
          refine ml_iald dL_law_1228 e574 ?_
          obtain ⟨g577, e578, hf⟩ := ob hf
          obtain ⟨x579, h575, e576, hf⟩ := ob1 hf
          refine ml_callV (ci := 7) (mc := 28 * n + 28) (ms := 10859 * n + 10859) (mc' := 0) (ms' := 0) [vi x561, vi x563, vi x565, vi w570, vi x573] dL_law_1229 mk_X8_link lk_RL_106 im_X8_link se_X8_link (by decide) e578 rfl (Nat.le_of_ble_eq_true rfl) (Nat.le_of_ble_eq_true rfl) (t_X8_link E _ e576 isR_rfl) ?_
          refine mw_aload_n (x := q2) dL_law_1232 rfl ?_
          refine mw_aload_n (x := q0) dL_law_1233 rfl ?_
          refine mw_iload_n (x := v3) dL_law_1234 rfl ?_
          refine mw_iconst (v := 1) dL_law_1235 (by decide) ?_
          refine mw_iadd dL_law_1236 ?_
          obtain ⟨x580, e581, hf⟩ := ob hf
          refine ml_iald dL_law_1237 e581 ?_
          refine mw_aload_n (x := q0) dL_law_1238 rfl ?_
          refine mw_iload_n (x := v3) dL_law_1239 rfl ?_
          refine mw_iconst (v := 2) dL_law_1240 (by decide) ?_
          refine mw_iadd dL_law_1241 ?_
          obtain ⟨x582, e583, hf⟩ := ob hf
          refine ml_iald dL_law_1242 e583 ?_
          refine mw_aload_n (x := q0) dL_law_1243 rfl ?_
          refine mw_iload_n (x := v3) dL_law_1244 rfl ?_
          refine mw_iconst (v := 3) dL_law_1245 (by decide) ?_
          refine mw_iadd dL_law_1246 ?_
          obtain ⟨x584, e585, hf⟩ := ob hf
          refine ml_iald dL_law_1247 e585 ?_
          refine mw_aload_n (x := q0) dL_law_1248 rfl ?_
          refine mw_iload_n (x := v3) dL_law_1249 rfl ?_
          refine mw_iconst (v := 4) dL_law_1250 (by decide) ?_
          refine mw_iadd dL_law_1251 ?_
          obtain ⟨x586, e587, hf⟩ := ob hf
          refine ml_iald dL_law_1252 e587 ?_
          obtain ⟨w589, h590, r591, hf⟩ := ob1 hf
          have J846 : MW E m_L_law (d + 206) (28 * n + 28) (10859 * n + 10859) 1261 [some (vq q0), some (vq q1), some (vq q2), some (vi v3)] [vi w589, vi x584, vi x582, vi x580, vq q2, vi x579] h590 K := by
            refine mw_aload_n (x := q0) dL_law_1261 rfl ?_
            refine mw_iload_n (x := v3) dL_law_1262 rfl ?_
            refine mw_iconst (v := 5) dL_law_1263 (by decide) ?_
            refine mw_iadd dL_law_1264 ?_
            obtain ⟨x592, e593, hf⟩ := ob hf
            refine ml_iald dL_law_1265 e593 ?_
            obtain ⟨g596, e597, hf⟩ := ob hf
            obtain ⟨x598, h594, e595, hf⟩ := ob1 hf
            refine ml_callV (ci := 8) (mc := 28 * n + 28) (ms := 10859 * n + 10859) (mc' := 0) (ms' := 0) [vi x580, vi x582, vi x584, vi w589, vi x592] dL_law_1266 mk_X9_link lk_RL_109 im_X9_link se_X9_link (by decide) e597 rfl (Nat.le_of_ble_eq_true rfl) (Nat.le_of_ble_eq_true rfl) (t_X9_link E _ e595 isR_rfl) ?_
            refine mw_icmp_eq (tgt := 1715) dL_law_1269 rfl (fun c599 => ?_) (fun c599 => ?_)
            · rw [if_pos c599] at hf
              refine mw_iinc (x := v3) (v := v3 + 6) dL_law_1715 rfl rfl (by decide) rfl ?_
              refine mw_goto (tgt := 18) dL_law_1718 rfl ?_
              exact MW.sub (subL_s (subL_s (subL_s (subL_s subL_nil)))) (MW.more (Nat.le_refl _) (by omega) (by omega) (ih _ _ _ _ _ _ hf hX1721))
            · rw [if_neg c599] at hf
              cases hf
          refine mw_if_eq (tgt := 1260) dL_law_1253 rfl (fun c588 => ?_) (fun c588 => ?_)
          · rw [if_pos c588] at r591
            refine mw_iconst (v := 0) dL_law_1260 (by decide) ?_
            obtain ⟨rfl, rfl⟩ := y1 r591
            exact MW.sub (subL_s (subL_s (subL_s (subL_s subL_nil)))) (MW.more (Nat.le_refl _) (Nat.le_refl _) (Nat.le_refl _) J846)
          · rw [if_neg c588] at r591
            refine mw_iconst (v := 1) dL_law_1256 (by decide) ?_
            refine mw_goto (tgt := 1261) dL_law_1257 rfl ?_
            obtain ⟨rfl, rfl⟩ := y1 r591
            exact MW.sub (subL_s (subL_s (subL_s (subL_s subL_nil)))) (MW.more (Nat.le_refl _) (Nat.le_refl _) (Nat.le_refl _) J846)
        refine mw_if_eq (tgt := 1223) dL_law_1216 rfl (fun c569 => ?_) (fun c569 => ?_)
        · rw [if_pos c569] at r572
          refine mw_iconst (v := 0) dL_law_1223 (by decide) ?_
          obtain ⟨rfl, rfl⟩ := y1 r572
          exact MW.sub (subL_s (subL_s (subL_s (subL_s subL_nil)))) (MW.more (Nat.le_refl _) (Nat.le_refl _) (Nat.le_refl _) J845)
        · rw [if_neg c569] at r572
          refine mw_iconst (v := 1) dL_law_1219 (by decide) ?_
          refine mw_goto (tgt := 1224) dL_law_1220 rfl ?_
          obtain ⟨rfl, rfl⟩ := y1 r572
          exact MW.sub (subL_s (subL_s (subL_s (subL_s subL_nil)))) (MW.more (Nat.le_refl _) (Nat.le_refl _) (Nat.le_refl _) J845)
      rw [if_neg c825] at hf
      by_cases c825 : (x12 &&& (31 : Int32)) = 22
      · rw [if_pos c825] at hf
        refine ml_tableIn (v := 22) (tgt := 1274) dL_law_33 c825 (by decide) (by decide) rfl rfl ?_
        refine mw_aload_n (x := q1) dL_law_1274 rfl ?_
        refine mw_aload_n (x := q0) dL_law_1275 rfl ?_
        refine mw_iload_n (x := v3) dL_law_1276 rfl ?_
        refine mw_iconst (v := 1) dL_law_1277 (by decide) ?_
        refine mw_iadd dL_law_1278 ?_
        obtain ⟨x600, e601, hf⟩ := ob hf
        refine ml_iald dL_law_1279 e601 ?_
        refine mw_aload_n (x := q0) dL_law_1280 rfl ?_
        refine mw_iload_n (x := v3) dL_law_1281 rfl ?_
        refine mw_iconst (v := 2) dL_law_1282 (by decide) ?_
        refine mw_iadd dL_law_1283 ?_
        obtain ⟨x602, e603, hf⟩ := ob hf
        refine ml_iald dL_law_1284 e603 ?_
        refine mw_aload_n (x := q0) dL_law_1285 rfl ?_
        refine mw_iload_n (x := v3) dL_law_1286 rfl ?_
        refine mw_iconst (v := 3) dL_law_1287 (by decide) ?_
        refine mw_iadd dL_law_1288 ?_
        obtain ⟨x604, e605, hf⟩ := ob hf
        refine ml_iald dL_law_1289 e605 ?_
        obtain ⟨w607, h608, r609, hf⟩ := ob1 hf
        have J847 : MW E m_L_law (d + 206) (28 * n + 28) (10859 * n + 10859) 1298 [some (vq q0), some (vq q1), some (vq q2), some (vi v3)] [vi w607, vi x602, vi x600, vq q1] h608 K := by
          refine mw_aload_n (x := q0) dL_law_1298 rfl ?_
          refine mw_iload_n (x := v3) dL_law_1299 rfl ?_
          refine mw_iconst (v := 4) dL_law_1300 (by decide) ?_
          refine mw_iadd dL_law_1301 ?_
          obtain ⟨x610, e611, hf⟩ := ob hf
          refine ml_iald dL_law_1302 e611 ?_
          obtain ⟨g614, e615, hf⟩ := ob hf
          obtain ⟨x616, h612, e613, hf⟩ := ob1 hf
          refine ml_callV (ci := 7) (mc := 28 * n + 28) (ms := 10859 * n + 10859) (mc' := 0) (ms' := 0) [vi x600, vi x602, vi w607, vi x610] dL_law_1303 mk_X8_due lk_RL_110 im_X8_due se_X8_due (by decide) e615 rfl (Nat.le_of_ble_eq_true rfl) (Nat.le_of_ble_eq_true rfl) (t_X8_due E _ e613 isR_rfl) ?_
          refine mw_aload_n (x := q2) dL_law_1306 rfl ?_
          refine mw_aload_n (x := q0) dL_law_1307 rfl ?_
          refine mw_iload_n (x := v3) dL_law_1308 rfl ?_
          refine mw_iconst (v := 1) dL_law_1309 (by decide) ?_
          refine mw_iadd dL_law_1310 ?_
          obtain ⟨x617, e618, hf⟩ := ob hf
          refine ml_iald dL_law_1311 e618 ?_
          refine mw_aload_n (x := q0) dL_law_1312 rfl ?_
          refine mw_iload_n (x := v3) dL_law_1313 rfl ?_
          refine mw_iconst (v := 2) dL_law_1314 (by decide) ?_
          refine mw_iadd dL_law_1315 ?_
          obtain ⟨x619, e620, hf⟩ := ob hf
          refine ml_iald dL_law_1316 e620 ?_
          refine mw_aload_n (x := q0) dL_law_1317 rfl ?_
          refine mw_iload_n (x := v3) dL_law_1318 rfl ?_
          refine mw_iconst (v := 3) dL_law_1319 (by decide) ?_
          refine mw_iadd dL_law_1320 ?_
          obtain ⟨x621, e622, hf⟩ := ob hf
          refine ml_iald dL_law_1321 e622 ?_
          obtain ⟨w624, h625, r626, hf⟩ := ob1 hf
          have J848 : MW E m_L_law (d + 206) (28 * n + 28) (10859 * n + 10859) 1330 [some (vq q0), some (vq q1), some (vq q2), some (vi v3)] [vi w624, vi x619, vi x617, vq q2, vl x616] h625 K := by
            refine mw_aload_n (x := q0) dL_law_1330 rfl ?_
            refine mw_iload_n (x := v3) dL_law_1331 rfl ?_
            refine mw_iconst (v := 4) dL_law_1332 (by decide) ?_
            refine mw_iadd dL_law_1333 ?_
            obtain ⟨x627, e628, hf⟩ := ob hf
            refine ml_iald dL_law_1334 e628 ?_
            obtain ⟨g631, e632, hf⟩ := ob hf
            obtain ⟨x633, h629, e630, hf⟩ := ob1 hf
            refine ml_callV (ci := 8) (mc := 28 * n + 28) (ms := 10859 * n + 10859) (mc' := 0) (ms' := 0) [vi x617, vi x619, vi w624, vi x627] dL_law_1335 mk_X9_due lk_RL_114 im_X9_due se_X9_due (by decide) e632 rfl (Nat.le_of_ble_eq_true rfl) (Nat.le_of_ble_eq_true rfl) (t_X9_due E _ e630 isR_rfl) ?_
            refine mw_lcmp dL_law_1338 ?_
            refine mw_if_eq (tgt := 1715) dL_law_1339 rfl (fun c634 => ?_) (fun c634 => ?_)
            · rw [if_pos c634] at hf
              refine mw_iinc (x := v3) (v := v3 + 6) dL_law_1715 rfl rfl (by decide) rfl ?_
              refine mw_goto (tgt := 18) dL_law_1718 rfl ?_
              exact MW.sub (subL_s (subL_s (subL_s (subL_s subL_nil)))) (MW.more (Nat.le_refl _) (by omega) (by omega) (ih _ _ _ _ _ _ hf hX1721))
            · rw [if_neg c634] at hf
              cases hf
          refine mw_if_eq (tgt := 1329) dL_law_1322 rfl (fun c623 => ?_) (fun c623 => ?_)
          · rw [if_pos c623] at r626
            refine mw_iconst (v := 0) dL_law_1329 (by decide) ?_
            obtain ⟨rfl, rfl⟩ := y1 r626
            exact MW.sub (subL_s (subL_s (subL_s (subL_s subL_nil)))) (MW.more (Nat.le_refl _) (Nat.le_refl _) (Nat.le_refl _) J848)
          · rw [if_neg c623] at r626
            refine mw_iconst (v := 1) dL_law_1325 (by decide) ?_
            refine mw_goto (tgt := 1330) dL_law_1326 rfl ?_
            obtain ⟨rfl, rfl⟩ := y1 r626
            exact MW.sub (subL_s (subL_s (subL_s (subL_s subL_nil)))) (MW.more (Nat.le_refl _) (Nat.le_refl _) (Nat.le_refl _) J848)
        refine mw_if_eq (tgt := 1297) dL_law_1290 rfl (fun c606 => ?_) (fun c606 => ?_)
        · rw [if_pos c606] at r609
          refine mw_iconst (v := 0) dL_law_1297 (by decide) ?_
          obtain ⟨rfl, rfl⟩ := y1 r609
          exact MW.sub (subL_s (subL_s (subL_s (subL_s subL_nil)))) (MW.more (Nat.le_refl _) (Nat.le_refl _) (Nat.le_refl _) J847)
        · rw [if_neg c606] at r609
          refine mw_iconst (v := 1) dL_law_1293 (by decide) ?_
          refine mw_goto (tgt := 1298) dL_law_1294 rfl ?_
          obtain ⟨rfl, rfl⟩ := y1 r609
          exact MW.sub (subL_s (subL_s (subL_s (subL_s subL_nil)))) (MW.more (Nat.le_refl _) (Nat.le_refl _) (Nat.le_refl _) J847)
      rw [if_neg c825] at hf
      by_cases c825 : (x12 &&& (31 : Int32)) = 23
      · rw [if_pos c825] at hf
        refine ml_tableIn (v := 23) (tgt := 1344) dL_law_33 c825 (by decide) (by decide) rfl rfl ?_
        refine mw_aload_n (x := q1) dL_law_1344 rfl ?_
        refine mw_aload_n (x := q0) dL_law_1345 rfl ?_
        refine mw_iload_n (x := v3) dL_law_1346 rfl ?_
        refine mw_iconst (v := 1) dL_law_1347 (by decide) ?_
        refine mw_iadd dL_law_1348 ?_
        obtain ⟨x635, e636, hf⟩ := ob hf
        refine ml_iald dL_law_1349 e636 ?_
        refine mw_aload_n (x := q0) dL_law_1350 rfl ?_
        refine mw_iload_n (x := v3) dL_law_1351 rfl ?_
        refine mw_iconst (v := 2) dL_law_1352 (by decide) ?_
        refine mw_iadd dL_law_1353 ?_
        obtain ⟨x637, e638, hf⟩ := ob hf
        refine ml_iald dL_law_1354 e638 ?_
        refine mw_aload_n (x := q0) dL_law_1355 rfl ?_
        refine mw_iload_n (x := v3) dL_law_1356 rfl ?_
        refine mw_iconst (v := 3) dL_law_1357 (by decide) ?_
        refine mw_iadd dL_law_1358 ?_
        obtain ⟨x639, e640, hf⟩ := ob hf
        refine ml_iald dL_law_1359 e640 ?_
        obtain ⟨w642, h643, r644, hf⟩ := ob1 hf
        have J849 : MW E m_L_law (d + 206) (28 * n + 28) (10859 * n + 10859) 1368 [some (vq q0), some (vq q1), some (vq q2), some (vi v3)] [vi w642, vi x637, vi x635, vq q1] h643 K := by
          refine mw_aload_n (x := q0) dL_law_1368 rfl ?_
          refine mw_iload_n (x := v3) dL_law_1369 rfl ?_
          refine mw_iconst (v := 4) dL_law_1370 (by decide) ?_
          refine mw_iadd dL_law_1371 ?_
          obtain ⟨x645, e646, hf⟩ := ob hf
          refine ml_iald dL_law_1372 e646 ?_
          obtain ⟨g649, e650, hf⟩ := ob hf
          obtain ⟨x651, h647, e648, hf⟩ := ob1 hf
          refine ml_callV (ci := 7) (mc := 28 * n + 28) (ms := 10859 * n + 10859) (mc' := 0) (ms' := 0) [vi x635, vi x637, vi w642, vi x645] dL_law_1373 mk_X8_payout lk_RL_115 im_X8_payout se_X8_payout (by decide) e650 rfl (Nat.le_of_ble_eq_true rfl) (Nat.le_of_ble_eq_true rfl) (t_X8_payout E _ e648 isR_rfl) ?_
          refine mw_aload_n (x := q2) dL_law_1376 rfl ?_
          refine mw_aload_n (x := q0) dL_law_1377 rfl ?_
          refine mw_iload_n (x := v3) dL_law_1378 rfl ?_
          refine mw_iconst (v := 1) dL_law_1379 (by decide) ?_
          refine mw_iadd dL_law_1380 ?_
          obtain ⟨x652, e653, hf⟩ := ob hf
          refine ml_iald dL_law_1381 e653 ?_
          refine mw_aload_n (x := q0) dL_law_1382 rfl ?_
          refine mw_iload_n (x := v3) dL_law_1383 rfl ?_
          refine mw_iconst (v := 2) dL_law_1384 (by decide) ?_
          refine mw_iadd dL_law_1385 ?_
          obtain ⟨x654, e655, hf⟩ := ob hf
          refine ml_iald dL_law_1386 e655 ?_
          refine mw_aload_n (x := q0) dL_law_1387 rfl ?_
          refine mw_iload_n (x := v3) dL_law_1388 rfl ?_
          refine mw_iconst (v := 3) dL_law_1389 (by decide) ?_
          refine mw_iadd dL_law_1390 ?_
          obtain ⟨x656, e657, hf⟩ := ob hf
          refine ml_iald dL_law_1391 e657 ?_
          obtain ⟨w659, h660, r661, hf⟩ := ob1 hf
          have J850 : MW E m_L_law (d + 206) (28 * n + 28) (10859 * n + 10859) 1400 [some (vq q0), some (vq q1), some (vq q2), some (vi v3)] [vi w659, vi x654, vi x652, vq q2, vl x651] h660 K := by
            refine mw_aload_n (x := q0) dL_law_1400 rfl ?_
            refine mw_iload_n (x := v3) dL_law_1401 rfl ?_
            refine mw_iconst (v := 4) dL_law_1402 (by decide) ?_
            refine mw_iadd dL_law_1403 ?_
            obtain ⟨x662, e663, hf⟩ := ob hf
            refine ml_iald dL_law_1404 e663 ?_
            obtain ⟨g666, e667, hf⟩ := ob hf
            obtain ⟨x668, h664, e665, hf⟩ := ob1 hf
            refine ml_callV (ci := 8) (mc := 28 * n + 28) (ms := 10859 * n + 10859) (mc' := 0) (ms' := 0) [vi x652, vi x654, vi w659, vi x662] dL_law_1405 mk_X9_payout lk_RL_118 im_X9_payout se_X9_payout (by decide) e667 rfl (Nat.le_of_ble_eq_true rfl) (Nat.le_of_ble_eq_true rfl) (t_X9_payout E _ e665 isR_rfl) ?_
            refine mw_lcmp dL_law_1408 ?_
            refine mw_if_eq (tgt := 1715) dL_law_1409 rfl (fun c669 => ?_) (fun c669 => ?_)
            · rw [if_pos c669] at hf
              refine mw_iinc (x := v3) (v := v3 + 6) dL_law_1715 rfl rfl (by decide) rfl ?_
              refine mw_goto (tgt := 18) dL_law_1718 rfl ?_
              exact MW.sub (subL_s (subL_s (subL_s (subL_s subL_nil)))) (MW.more (Nat.le_refl _) (by omega) (by omega) (ih _ _ _ _ _ _ hf hX1721))
            · rw [if_neg c669] at hf
              cases hf
          refine mw_if_eq (tgt := 1399) dL_law_1392 rfl (fun c658 => ?_) (fun c658 => ?_)
          · rw [if_pos c658] at r661
            refine mw_iconst (v := 0) dL_law_1399 (by decide) ?_
            obtain ⟨rfl, rfl⟩ := y1 r661
            exact MW.sub (subL_s (subL_s (subL_s (subL_s subL_nil)))) (MW.more (Nat.le_refl _) (Nat.le_refl _) (Nat.le_refl _) J850)
          · rw [if_neg c658] at r661
            refine mw_iconst (v := 1) dL_law_1395 (by decide) ?_
            refine mw_goto (tgt := 1400) dL_law_1396 rfl ?_
            obtain ⟨rfl, rfl⟩ := y1 r661
            exact MW.sub (subL_s (subL_s (subL_s (subL_s subL_nil)))) (MW.more (Nat.le_refl _) (Nat.le_refl _) (Nat.le_refl _) J850)
        refine mw_if_eq (tgt := 1367) dL_law_1360 rfl (fun c641 => ?_) (fun c641 => ?_)
        · rw [if_pos c641] at r644
          refine mw_iconst (v := 0) dL_law_1367 (by decide) ?_
          obtain ⟨rfl, rfl⟩ := y1 r644
          exact MW.sub (subL_s (subL_s (subL_s (subL_s subL_nil)))) (MW.more (Nat.le_refl _) (Nat.le_refl _) (Nat.le_refl _) J849)
        · rw [if_neg c641] at r644
          refine mw_iconst (v := 1) dL_law_1363 (by decide) ?_
          refine mw_goto (tgt := 1368) dL_law_1364 rfl ?_
          obtain ⟨rfl, rfl⟩ := y1 r644
          exact MW.sub (subL_s (subL_s (subL_s (subL_s subL_nil)))) (MW.more (Nat.le_refl _) (Nat.le_refl _) (Nat.le_refl _) J849)
      rw [if_neg c825] at hf
      by_cases c825 : (x12 &&& (31 : Int32)) = 24
      · rw [if_pos c825] at hf
        refine ml_tableIn (v := 24) (tgt := 1414) dL_law_33 c825 (by decide) (by decide) rfl rfl ?_
        refine mw_aload_n (x := q1) dL_law_1414 rfl ?_
        refine mw_aload_n (x := q0) dL_law_1415 rfl ?_
        refine mw_iload_n (x := v3) dL_law_1416 rfl ?_
        refine mw_iconst (v := 1) dL_law_1417 (by decide) ?_
        refine mw_iadd dL_law_1418 ?_
        obtain ⟨x670, e671, hf⟩ := ob hf
        refine ml_iald dL_law_1419 e671 ?_
        refine mw_aload_n (x := q0) dL_law_1420 rfl ?_
        refine mw_iload_n (x := v3) dL_law_1421 rfl ?_
        refine mw_iconst (v := 2) dL_law_1422 (by decide) ?_
        refine mw_iadd dL_law_1423 ?_
        obtain ⟨x672, e673, hf⟩ := ob hf
        refine ml_iald dL_law_1424 e673 ?_
        refine mw_aload_n (x := q0) dL_law_1425 rfl ?_
        refine mw_iload_n (x := v3) dL_law_1426 rfl ?_
        refine mw_iconst (v := 3) dL_law_1427 (by decide) ?_
        refine mw_iadd dL_law_1428 ?_
        obtain ⟨x674, e675, hf⟩ := ob hf
        refine ml_iald dL_law_1429 e675 ?_
        obtain ⟨w677, h678, r679, hf⟩ := ob1 hf
        have J851 : MW E m_L_law (d + 206) (28 * n + 28) (10859 * n + 10859) 1438 [some (vq q0), some (vq q1), some (vq q2), some (vi v3)] [vi w677, vi x672, vi x670, vq q1] h678 K := by
          refine mw_aload_n (x := q0) dL_law_1438 rfl ?_
          refine mw_iload_n (x := v3) dL_law_1439 rfl ?_
          refine mw_iconst (v := 4) dL_law_1440 (by decide) ?_
          refine mw_iadd dL_law_1441 ?_
          obtain ⟨x680, e681, hf⟩ := ob hf
          refine ml_iald dL_law_1442 e681 ?_
          obtain ⟨g684, e685, hf⟩ := ob hf
          obtain ⟨x686, h682, e683, hf⟩ := ob1 hf
          refine ml_callV (ci := 7) (mc := 28 * n + 28) (ms := 10859 * n + 10859) (mc' := 0) (ms' := 0) [vi x670, vi x672, vi w677, vi x680] dL_law_1443 mk_X8_quarrels lk_RL_119 im_X8_quarrels se_X8_quarrels (by decide) e685 rfl (Nat.le_of_ble_eq_true rfl) (Nat.le_of_ble_eq_true rfl) (t_X8_quarrels E _ e683 isR_rfl) ?_
          refine mw_aload_n (x := q2) dL_law_1446 rfl ?_
          refine mw_aload_n (x := q0) dL_law_1447 rfl ?_
          refine mw_iload_n (x := v3) dL_law_1448 rfl ?_
          refine mw_iconst (v := 1) dL_law_1449 (by decide) ?_
          refine mw_iadd dL_law_1450 ?_
          obtain ⟨x687, e688, hf⟩ := ob hf
          refine ml_iald dL_law_1451 e688 ?_
          refine mw_aload_n (x := q0) dL_law_1452 rfl ?_
          refine mw_iload_n (x := v3) dL_law_1453 rfl ?_
          refine mw_iconst (v := 2) dL_law_1454 (by decide) ?_
          refine mw_iadd dL_law_1455 ?_
          obtain ⟨x689, e690, hf⟩ := ob hf
          refine ml_iald dL_law_1456 e690 ?_
          refine mw_aload_n (x := q0) dL_law_1457 rfl ?_
          refine mw_iload_n (x := v3) dL_law_1458 rfl ?_
          refine mw_iconst (v := 3) dL_law_1459 (by decide) ?_
          refine mw_iadd dL_law_1460 ?_
          obtain ⟨x691, e692, hf⟩ := ob hf
          refine ml_iald dL_law_1461 e692 ?_
          obtain ⟨w694, h695, r696, hf⟩ := ob1 hf
          have J852 : MW E m_L_law (d + 206) (28 * n + 28) (10859 * n + 10859) 1470 [some (vq q0), some (vq q1), some (vq q2), some (vi v3)] [vi w694, vi x689, vi x687, vq q2, vl x686] h695 K := by
            refine mw_aload_n (x := q0) dL_law_1470 rfl ?_
            refine mw_iload_n (x := v3) dL_law_1471 rfl ?_
            refine mw_iconst (v := 4) dL_law_1472 (by decide) ?_
            refine mw_iadd dL_law_1473 ?_
            obtain ⟨x697, e698, hf⟩ := ob hf
            refine ml_iald dL_law_1474 e698 ?_
            obtain ⟨g701, e702, hf⟩ := ob hf
            obtain ⟨x703, h699, e700, hf⟩ := ob1 hf
            refine ml_callV (ci := 8) (mc := 28 * n + 28) (ms := 10859 * n + 10859) (mc' := 0) (ms' := 0) [vi x687, vi x689, vi w694, vi x697] dL_law_1475 mk_X9_quarrels lk_RL_122 im_X9_quarrels se_X9_quarrels (by decide) e702 rfl (Nat.le_of_ble_eq_true rfl) (Nat.le_of_ble_eq_true rfl) (t_X9_quarrels E _ e700 isR_rfl) ?_
            refine mw_lcmp dL_law_1478 ?_
            refine mw_if_eq (tgt := 1715) dL_law_1479 rfl (fun c704 => ?_) (fun c704 => ?_)
            · rw [if_pos c704] at hf
              refine mw_iinc (x := v3) (v := v3 + 6) dL_law_1715 rfl rfl (by decide) rfl ?_
              refine mw_goto (tgt := 18) dL_law_1718 rfl ?_
              exact MW.sub (subL_s (subL_s (subL_s (subL_s subL_nil)))) (MW.more (Nat.le_refl _) (by omega) (by omega) (ih _ _ _ _ _ _ hf hX1721))
            · rw [if_neg c704] at hf
              cases hf
          refine mw_if_eq (tgt := 1469) dL_law_1462 rfl (fun c693 => ?_) (fun c693 => ?_)
          · rw [if_pos c693] at r696
            refine mw_iconst (v := 0) dL_law_1469 (by decide) ?_
            obtain ⟨rfl, rfl⟩ := y1 r696
            exact MW.sub (subL_s (subL_s (subL_s (subL_s subL_nil)))) (MW.more (Nat.le_refl _) (Nat.le_refl _) (Nat.le_refl _) J852)
          · rw [if_neg c693] at r696
            refine mw_iconst (v := 1) dL_law_1465 (by decide) ?_
            refine mw_goto (tgt := 1470) dL_law_1466 rfl ?_
            obtain ⟨rfl, rfl⟩ := y1 r696
            exact MW.sub (subL_s (subL_s (subL_s (subL_s subL_nil)))) (MW.more (Nat.le_refl _) (Nat.le_refl _) (Nat.le_refl _) J852)
        refine mw_if_eq (tgt := 1437) dL_law_1430 rfl (fun c676 => ?_) (fun c676 => ?_)
        · rw [if_pos c676] at r679
          refine mw_iconst (v := 0) dL_law_1437 (by decide) ?_
          obtain ⟨rfl, rfl⟩ := y1 r679
          exact MW.sub (subL_s (subL_s (subL_s (subL_s subL_nil)))) (MW.more (Nat.le_refl _) (Nat.le_refl _) (Nat.le_refl _) J851)
        · rw [if_neg c676] at r679
          refine mw_iconst (v := 1) dL_law_1433 (by decide) ?_
          refine mw_goto (tgt := 1438) dL_law_1434 rfl ?_
          obtain ⟨rfl, rfl⟩ := y1 r679
          exact MW.sub (subL_s (subL_s (subL_s (subL_s subL_nil)))) (MW.more (Nat.le_refl _) (Nat.le_refl _) (Nat.le_refl _) J851)
      rw [if_neg c825] at hf
      by_cases c825 : (x12 &&& (31 : Int32)) = 25
      · rw [if_pos c825] at hf
        refine ml_tableIn (v := 25) (tgt := 1484) dL_law_33 c825 (by decide) (by decide) rfl rfl ?_
        refine mw_aload_n (x := q1) dL_law_1484 rfl ?_
        refine mw_aload_n (x := q0) dL_law_1485 rfl ?_
        refine mw_iload_n (x := v3) dL_law_1486 rfl ?_
        refine mw_iconst (v := 1) dL_law_1487 (by decide) ?_
        refine mw_iadd dL_law_1488 ?_
        obtain ⟨x705, e706, hf⟩ := ob hf
        refine ml_iald dL_law_1489 e706 ?_
        refine mw_aload_n (x := q0) dL_law_1490 rfl ?_
        refine mw_iload_n (x := v3) dL_law_1491 rfl ?_
        refine mw_iconst (v := 2) dL_law_1492 (by decide) ?_
        refine mw_iadd dL_law_1493 ?_
        obtain ⟨x707, e708, hf⟩ := ob hf
        refine ml_iald dL_law_1494 e708 ?_
        refine mw_aload_n (x := q0) dL_law_1495 rfl ?_
        refine mw_iload_n (x := v3) dL_law_1496 rfl ?_
        refine mw_iconst (v := 3) dL_law_1497 (by decide) ?_
        refine mw_iadd dL_law_1498 ?_
        obtain ⟨x709, e710, hf⟩ := ob hf
        refine ml_iald dL_law_1499 e710 ?_
        obtain ⟨w712, h713, r714, hf⟩ := ob1 hf
        have J853 : MW E m_L_law (d + 206) (28 * n + 28) (10859 * n + 10859) 1508 [some (vq q0), some (vq q1), some (vq q2), some (vi v3)] [vi w712, vi x707, vi x705, vq q1] h713 K := by
          refine mw_aload_n (x := q0) dL_law_1508 rfl ?_
          refine mw_iload_n (x := v3) dL_law_1509 rfl ?_
          refine mw_iconst (v := 4) dL_law_1510 (by decide) ?_
          refine mw_iadd dL_law_1511 ?_
          obtain ⟨x715, e716, hf⟩ := ob hf
          refine ml_iald dL_law_1512 e716 ?_
          obtain ⟨g719, e720, hf⟩ := ob hf
          obtain ⟨x721, h717, e718, hf⟩ := ob1 hf
          refine ml_callV (ci := 7) (mc := 28 * n + 28) (ms := 10859 * n + 10859) (mc' := 0) (ms' := 0) [vi x705, vi x707, vi w712, vi x715] dL_law_1513 mk_X8_marks lk_RL_123 im_X8_marks se_X8_marks (by decide) e720 rfl (Nat.le_of_ble_eq_true rfl) (Nat.le_of_ble_eq_true rfl) (t_X8_marks E _ e718 isR_rfl) ?_
          refine mw_aload_n (x := q2) dL_law_1516 rfl ?_
          refine mw_aload_n (x := q0) dL_law_1517 rfl ?_
          refine mw_iload_n (x := v3) dL_law_1518 rfl ?_
          refine mw_iconst (v := 1) dL_law_1519 (by decide) ?_
          refine mw_iadd dL_law_1520 ?_
          obtain ⟨x722, e723, hf⟩ := ob hf
          refine ml_iald dL_law_1521 e723 ?_
          refine mw_aload_n (x := q0) dL_law_1522 rfl ?_
          refine mw_iload_n (x := v3) dL_law_1523 rfl ?_
          refine mw_iconst (v := 2) dL_law_1524 (by decide) ?_
          refine mw_iadd dL_law_1525 ?_
          obtain ⟨x724, e725, hf⟩ := ob hf
          refine ml_iald dL_law_1526 e725 ?_
          refine mw_aload_n (x := q0) dL_law_1527 rfl ?_
          refine mw_iload_n (x := v3) dL_law_1528 rfl ?_
          refine mw_iconst (v := 3) dL_law_1529 (by decide) ?_
          refine mw_iadd dL_law_1530 ?_
          obtain ⟨x726, e727, hf⟩ := ob hf
          refine ml_iald dL_law_1531 e727 ?_
          obtain ⟨w729, h730, r731, hf⟩ := ob1 hf
          have J854 : MW E m_L_law (d + 206) (28 * n + 28) (10859 * n + 10859) 1540 [some (vq q0), some (vq q1), some (vq q2), some (vi v3)] [vi w729, vi x724, vi x722, vq q2, vi x721] h730 K := by
            refine mw_aload_n (x := q0) dL_law_1540 rfl ?_
            refine mw_iload_n (x := v3) dL_law_1541 rfl ?_
            refine mw_iconst (v := 4) dL_law_1542 (by decide) ?_
            refine mw_iadd dL_law_1543 ?_
            obtain ⟨x732, e733, hf⟩ := ob hf
            refine ml_iald dL_law_1544 e733 ?_
            obtain ⟨g736, e737, hf⟩ := ob hf
            obtain ⟨x738, h734, e735, hf⟩ := ob1 hf
            refine ml_callV (ci := 8) (mc := 28 * n + 28) (ms := 10859 * n + 10859) (mc' := 0) (ms' := 0) [vi x722, vi x724, vi w729, vi x732] dL_law_1545 mk_X9_marks lk_RL_126 im_X9_marks se_X9_marks (by decide) e737 rfl (Nat.le_of_ble_eq_true rfl) (Nat.le_of_ble_eq_true rfl) (t_X9_marks E _ e735 isR_rfl) ?_
            refine mw_icmp_eq (tgt := 1715) dL_law_1548 rfl (fun c739 => ?_) (fun c739 => ?_)
            · rw [if_pos c739] at hf
              refine mw_iinc (x := v3) (v := v3 + 6) dL_law_1715 rfl rfl (by decide) rfl ?_
              refine mw_goto (tgt := 18) dL_law_1718 rfl ?_
              exact MW.sub (subL_s (subL_s (subL_s (subL_s subL_nil)))) (MW.more (Nat.le_refl _) (by omega) (by omega) (ih _ _ _ _ _ _ hf hX1721))
            · rw [if_neg c739] at hf
              cases hf
          refine mw_if_eq (tgt := 1539) dL_law_1532 rfl (fun c728 => ?_) (fun c728 => ?_)
          · rw [if_pos c728] at r731
            refine mw_iconst (v := 0) dL_law_1539 (by decide) ?_
            obtain ⟨rfl, rfl⟩ := y1 r731
            exact MW.sub (subL_s (subL_s (subL_s (subL_s subL_nil)))) (MW.more (Nat.le_refl _) (Nat.le_refl _) (Nat.le_refl _) J854)
          · rw [if_neg c728] at r731
            refine mw_iconst (v := 1) dL_law_1535 (by decide) ?_
            refine mw_goto (tgt := 1540) dL_law_1536 rfl ?_
            obtain ⟨rfl, rfl⟩ := y1 r731
            exact MW.sub (subL_s (subL_s (subL_s (subL_s subL_nil)))) (MW.more (Nat.le_refl _) (Nat.le_refl _) (Nat.le_refl _) J854)
        refine mw_if_eq (tgt := 1507) dL_law_1500 rfl (fun c711 => ?_) (fun c711 => ?_)
        · rw [if_pos c711] at r714
          refine mw_iconst (v := 0) dL_law_1507 (by decide) ?_
          obtain ⟨rfl, rfl⟩ := y1 r714
          exact MW.sub (subL_s (subL_s (subL_s (subL_s subL_nil)))) (MW.more (Nat.le_refl _) (Nat.le_refl _) (Nat.le_refl _) J853)
        · rw [if_neg c711] at r714
          refine mw_iconst (v := 1) dL_law_1503 (by decide) ?_
          refine mw_goto (tgt := 1508) dL_law_1504 rfl ?_
          obtain ⟨rfl, rfl⟩ := y1 r714
          exact MW.sub (subL_s (subL_s (subL_s (subL_s subL_nil)))) (MW.more (Nat.le_refl _) (Nat.le_refl _) (Nat.le_refl _) J853)
      rw [if_neg c825] at hf
      by_cases c825 : (x12 &&& (31 : Int32)) = 26
      · rw [if_pos c825] at hf
        refine ml_tableIn (v := 26) (tgt := 1553) dL_law_33 c825 (by decide) (by decide) rfl rfl ?_
        refine mw_aload_n (x := q1) dL_law_1553 rfl ?_
        refine mw_aload_n (x := q0) dL_law_1554 rfl ?_
        refine mw_iload_n (x := v3) dL_law_1555 rfl ?_
        refine mw_iconst (v := 1) dL_law_1556 (by decide) ?_
        refine mw_iadd dL_law_1557 ?_
        obtain ⟨x740, e741, hf⟩ := ob hf
        refine ml_iald dL_law_1558 e741 ?_
        refine mw_aload_n (x := q0) dL_law_1559 rfl ?_
        refine mw_iload_n (x := v3) dL_law_1560 rfl ?_
        refine mw_iconst (v := 2) dL_law_1561 (by decide) ?_
        refine mw_iadd dL_law_1562 ?_
        obtain ⟨x742, e743, hf⟩ := ob hf
        refine ml_iald dL_law_1563 e743 ?_
        refine mw_aload_n (x := q0) dL_law_1564 rfl ?_
        refine mw_iload_n (x := v3) dL_law_1565 rfl ?_
        refine mw_iconst (v := 3) dL_law_1566 (by decide) ?_
        refine mw_iadd dL_law_1567 ?_
        obtain ⟨x744, e745, hf⟩ := ob hf
        refine ml_iald dL_law_1568 e745 ?_
        obtain ⟨w747, h748, r749, hf⟩ := ob1 hf
        have J855 : MW E m_L_law (d + 206) (28 * n + 28) (10859 * n + 10859) 1577 [some (vq q0), some (vq q1), some (vq q2), some (vi v3)] [vi w747, vi x742, vi x740, vq q1] h748 K := by
          refine mw_aload_n (x := q0) dL_law_1577 rfl ?_
          refine mw_iload_n (x := v3) dL_law_1578 rfl ?_
          refine mw_iconst (v := 4) dL_law_1579 (by decide) ?_
          refine mw_iadd dL_law_1580 ?_
          obtain ⟨x750, e751, hf⟩ := ob hf
          refine ml_iald dL_law_1581 e751 ?_
          obtain ⟨g754, e755, hf⟩ := ob hf
          obtain ⟨x756, h752, e753, hf⟩ := ob1 hf
          refine ml_callV (ci := 7) (mc := 28 * n + 28) (ms := 10859 * n + 10859) (mc' := 0) (ms' := 0) [vi x740, vi x742, vi w747, vi x750] dL_law_1582 mk_X8_tests lk_RL_127 im_X8_tests se_X8_tests (by decide) e755 rfl (Nat.le_of_ble_eq_true rfl) (Nat.le_of_ble_eq_true rfl) (t_X8_tests E _ e753 isR_rfl) ?_
          refine mw_aload_n (x := q2) dL_law_1585 rfl ?_
          refine mw_aload_n (x := q0) dL_law_1586 rfl ?_
          refine mw_iload_n (x := v3) dL_law_1587 rfl ?_
          refine mw_iconst (v := 1) dL_law_1588 (by decide) ?_
          refine mw_iadd dL_law_1589 ?_
          obtain ⟨x757, e758, hf⟩ := ob hf
          refine ml_iald dL_law_1590 e758 ?_
          refine mw_aload_n (x := q0) dL_law_1591 rfl ?_
          refine mw_iload_n (x := v3) dL_law_1592 rfl ?_
          refine mw_iconst (v := 2) dL_law_1593 (by decide) ?_
          refine mw_iadd dL_law_1594 ?_
          obtain ⟨x759, e760, hf⟩ := ob hf
          refine ml_iald dL_law_1595 e760 ?_
          refine mw_aload_n (x := q0) dL_law_1596 rfl ?_
          refine mw_iload_n (x := v3) dL_law_1597 rfl ?_
          refine mw_iconst (v := 3) dL_law_1598 (by decide) ?_
          refine mw_iadd dL_law_1599 ?_
          obtain ⟨x761, e762, hf⟩ := ob hf
          refine ml_iald dL_law_1600 e762 ?_
          obtain ⟨w764, h765, r766, hf⟩ := ob1 hf
          have J856 : MW E m_L_law (d + 206) (28 * n + 28) (10859 * n + 10859) 1609 [some (vq q0), some (vq q1), some (vq q2), some (vi v3)] [vi w764, vi x759, vi x757, vq q2, vi x756] h765 K := by
            refine mw_aload_n (x := q0) dL_law_1609 rfl ?_
            refine mw_iload_n (x := v3) dL_law_1610 rfl ?_
            refine mw_iconst (v := 4) dL_law_1611 (by decide) ?_
            refine mw_iadd dL_law_1612 ?_
            obtain ⟨x767, e768, hf⟩ := ob hf
            refine ml_iald dL_law_1613 e768 ?_
            obtain ⟨g771, e772, hf⟩ := ob hf
            obtain ⟨x773, h769, e770, hf⟩ := ob1 hf
            refine ml_callV (ci := 8) (mc := 28 * n + 28) (ms := 10859 * n + 10859) (mc' := 0) (ms' := 0) [vi x757, vi x759, vi w764, vi x767] dL_law_1614 mk_X9_tests lk_RL_130 im_X9_tests se_X9_tests (by decide) e772 rfl (Nat.le_of_ble_eq_true rfl) (Nat.le_of_ble_eq_true rfl) (t_X9_tests E _ e770 isR_rfl) ?_
            refine mw_icmp_eq (tgt := 1715) dL_law_1617 rfl (fun c774 => ?_) (fun c774 => ?_)
            · rw [if_pos c774] at hf
              refine mw_iinc (x := v3) (v := v3 + 6) dL_law_1715 rfl rfl (by decide) rfl ?_
              refine mw_goto (tgt := 18) dL_law_1718 rfl ?_
              exact MW.sub (subL_s (subL_s (subL_s (subL_s subL_nil)))) (MW.more (Nat.le_refl _) (by omega) (by omega) (ih _ _ _ _ _ _ hf hX1721))
            · rw [if_neg c774] at hf
              cases hf
          refine mw_if_eq (tgt := 1608) dL_law_1601 rfl (fun c763 => ?_) (fun c763 => ?_)
          · rw [if_pos c763] at r766
            refine mw_iconst (v := 0) dL_law_1608 (by decide) ?_
            obtain ⟨rfl, rfl⟩ := y1 r766
            exact MW.sub (subL_s (subL_s (subL_s (subL_s subL_nil)))) (MW.more (Nat.le_refl _) (Nat.le_refl _) (Nat.le_refl _) J856)
          · rw [if_neg c763] at r766
            refine mw_iconst (v := 1) dL_law_1604 (by decide) ?_
            refine mw_goto (tgt := 1609) dL_law_1605 rfl ?_
            obtain ⟨rfl, rfl⟩ := y1 r766
            exact MW.sub (subL_s (subL_s (subL_s (subL_s subL_nil)))) (MW.more (Nat.le_refl _) (Nat.le_refl _) (Nat.le_refl _) J856)
        refine mw_if_eq (tgt := 1576) dL_law_1569 rfl (fun c746 => ?_) (fun c746 => ?_)
        · rw [if_pos c746] at r749
          refine mw_iconst (v := 0) dL_law_1576 (by decide) ?_
          obtain ⟨rfl, rfl⟩ := y1 r749
          exact MW.sub (subL_s (subL_s (subL_s (subL_s subL_nil)))) (MW.more (Nat.le_refl _) (Nat.le_refl _) (Nat.le_refl _) J855)
        · rw [if_neg c746] at r749
          refine mw_iconst (v := 1) dL_law_1572 (by decide) ?_
          refine mw_goto (tgt := 1577) dL_law_1573 rfl ?_
          obtain ⟨rfl, rfl⟩ := y1 r749
          exact MW.sub (subL_s (subL_s (subL_s (subL_s subL_nil)))) (MW.more (Nat.le_refl _) (Nat.le_refl _) (Nat.le_refl _) J855)
      rw [if_neg c825] at hf
      by_cases c825 : (x12 &&& (31 : Int32)) = 27
      · rw [if_pos c825] at hf
        refine ml_tableIn (v := 27) (tgt := 1622) dL_law_33 c825 (by decide) (by decide) rfl rfl ?_
        refine mw_aload_n (x := q1) dL_law_1622 rfl ?_
        refine mw_aload_n (x := q0) dL_law_1623 rfl ?_
        refine mw_iload_n (x := v3) dL_law_1624 rfl ?_
        refine mw_iconst (v := 1) dL_law_1625 (by decide) ?_
        refine mw_iadd dL_law_1626 ?_
        obtain ⟨x775, e776, hf⟩ := ob hf
        refine ml_iald dL_law_1627 e776 ?_
        refine mw_aload_n (x := q0) dL_law_1628 rfl ?_
        refine mw_iload_n (x := v3) dL_law_1629 rfl ?_
        refine mw_iconst (v := 2) dL_law_1630 (by decide) ?_
        refine mw_iadd dL_law_1631 ?_
        obtain ⟨x777, e778, hf⟩ := ob hf
        refine ml_iald dL_law_1632 e778 ?_
        refine mw_aload_n (x := q0) dL_law_1633 rfl ?_
        refine mw_iload_n (x := v3) dL_law_1634 rfl ?_
        refine mw_iconst (v := 3) dL_law_1635 (by decide) ?_
        refine mw_iadd dL_law_1636 ?_
        obtain ⟨x779, e780, hf⟩ := ob hf
        refine ml_iald dL_law_1637 e780 ?_
        obtain ⟨w782, h783, r784, hf⟩ := ob1 hf
        have J857 : MW E m_L_law (d + 206) (28 * n + 28) (10859 * n + 10859) 1646 [some (vq q0), some (vq q1), some (vq q2), some (vi v3)] [vi w782, vi x777, vi x775, vq q1] h783 K := by
          refine mw_aload_n (x := q0) dL_law_1646 rfl ?_
          refine mw_iload_n (x := v3) dL_law_1647 rfl ?_
          refine mw_iconst (v := 4) dL_law_1648 (by decide) ?_
          refine mw_iadd dL_law_1649 ?_
          obtain ⟨x785, e786, hf⟩ := ob hf
          refine ml_iald dL_law_1650 e786 ?_
          obtain ⟨g789, e790, hf⟩ := ob hf
          obtain ⟨x791, h787, e788, hf⟩ := ob1 hf
          refine ml_callV (ci := 7) (mc := 28 * n + 28) (ms := 10859 * n + 10859) (mc' := 0) (ms' := 0) [vi x775, vi x777, vi w782, vi x785] dL_law_1651 mk_X8_settles lk_RL_131 im_X8_settles se_X8_settles (by decide) e790 rfl (Nat.le_of_ble_eq_true rfl) (Nat.le_of_ble_eq_true rfl) (t_X8_settles E _ e788 isR_rfl) ?_
          refine mw_aload_n (x := q2) dL_law_1654 rfl ?_
          refine mw_aload_n (x := q0) dL_law_1655 rfl ?_
          refine mw_iload_n (x := v3) dL_law_1656 rfl ?_
          refine mw_iconst (v := 1) dL_law_1657 (by decide) ?_
          refine mw_iadd dL_law_1658 ?_
          obtain ⟨x792, e793, hf⟩ := ob hf
          refine ml_iald dL_law_1659 e793 ?_
          refine mw_aload_n (x := q0) dL_law_1660 rfl ?_
          refine mw_iload_n (x := v3) dL_law_1661 rfl ?_
          refine mw_iconst (v := 2) dL_law_1662 (by decide) ?_
          refine mw_iadd dL_law_1663 ?_
          obtain ⟨x794, e795, hf⟩ := ob hf
          refine ml_iald dL_law_1664 e795 ?_
          refine mw_aload_n (x := q0) dL_law_1665 rfl ?_
          refine mw_iload_n (x := v3) dL_law_1666 rfl ?_
          refine mw_iconst (v := 3) dL_law_1667 (by decide) ?_
          refine mw_iadd dL_law_1668 ?_
          obtain ⟨x796, e797, hf⟩ := ob hf
          refine ml_iald dL_law_1669 e797 ?_
          obtain ⟨w799, h800, r801, hf⟩ := ob1 hf
          have J858 : MW E m_L_law (d + 206) (28 * n + 28) (10859 * n + 10859) 1678 [some (vq q0), some (vq q1), some (vq q2), some (vi v3)] [vi w799, vi x794, vi x792, vq q2, vl x791] h800 K := by
            refine mw_aload_n (x := q0) dL_law_1678 rfl ?_
            refine mw_iload_n (x := v3) dL_law_1679 rfl ?_
            refine mw_iconst (v := 4) dL_law_1680 (by decide) ?_
            refine mw_iadd dL_law_1681 ?_
            obtain ⟨x802, e803, hf⟩ := ob hf
            refine ml_iald dL_law_1682 e803 ?_
            obtain ⟨g806, e807, hf⟩ := ob hf
            obtain ⟨x808, h804, e805, hf⟩ := ob1 hf
            refine ml_callV (ci := 8) (mc := 28 * n + 28) (ms := 10859 * n + 10859) (mc' := 0) (ms' := 0) [vi x792, vi x794, vi w799, vi x802] dL_law_1683 mk_X9_settles lk_RL_134 im_X9_settles se_X9_settles (by decide) e807 rfl (Nat.le_of_ble_eq_true rfl) (Nat.le_of_ble_eq_true rfl) (t_X9_settles E _ e805 isR_rfl) ?_
            refine mw_lcmp dL_law_1686 ?_
            refine mw_if_eq (tgt := 1715) dL_law_1687 rfl (fun c809 => ?_) (fun c809 => ?_)
            · rw [if_pos c809] at hf
              refine mw_iinc (x := v3) (v := v3 + 6) dL_law_1715 rfl rfl (by decide) rfl ?_
              refine mw_goto (tgt := 18) dL_law_1718 rfl ?_
              exact MW.sub (subL_s (subL_s (subL_s (subL_s subL_nil)))) (MW.more (Nat.le_refl _) (by omega) (by omega) (ih _ _ _ _ _ _ hf hX1721))
            · rw [if_neg c809] at hf
              cases hf
          refine mw_if_eq (tgt := 1677) dL_law_1670 rfl (fun c798 => ?_) (fun c798 => ?_)
          · rw [if_pos c798] at r801
            refine mw_iconst (v := 0) dL_law_1677 (by decide) ?_
            obtain ⟨rfl, rfl⟩ := y1 r801
            exact MW.sub (subL_s (subL_s (subL_s (subL_s subL_nil)))) (MW.more (Nat.le_refl _) (Nat.le_refl _) (Nat.le_refl _) J858)
          · rw [if_neg c798] at r801
            refine mw_iconst (v := 1) dL_law_1673 (by decide) ?_
            refine mw_goto (tgt := 1678) dL_law_1674 rfl ?_
            obtain ⟨rfl, rfl⟩ := y1 r801
            exact MW.sub (subL_s (subL_s (subL_s (subL_s subL_nil)))) (MW.more (Nat.le_refl _) (Nat.le_refl _) (Nat.le_refl _) J858)
        refine mw_if_eq (tgt := 1645) dL_law_1638 rfl (fun c781 => ?_) (fun c781 => ?_)
        · rw [if_pos c781] at r784
          refine mw_iconst (v := 0) dL_law_1645 (by decide) ?_
          obtain ⟨rfl, rfl⟩ := y1 r784
          exact MW.sub (subL_s (subL_s (subL_s (subL_s subL_nil)))) (MW.more (Nat.le_refl _) (Nat.le_refl _) (Nat.le_refl _) J857)
        · rw [if_neg c781] at r784
          refine mw_iconst (v := 1) dL_law_1641 (by decide) ?_
          refine mw_goto (tgt := 1646) dL_law_1642 rfl ?_
          obtain ⟨rfl, rfl⟩ := y1 r784
          exact MW.sub (subL_s (subL_s (subL_s (subL_s subL_nil)))) (MW.more (Nat.le_refl _) (Nat.le_refl _) (Nat.le_refl _) J857)
      rw [if_neg c825] at hf
      by_cases c825 : (x12 &&& (31 : Int32)) = 28
      · rw [if_pos c825] at hf
        refine ml_tableIn (v := 28) (tgt := 1692) dL_law_33 c825 (by decide) (by decide) rfl rfl ?_
        refine mw_aload_n (x := q1) dL_law_1692 rfl ?_
        refine mw_aload_n (x := q0) dL_law_1693 rfl ?_
        refine mw_iload_n (x := v3) dL_law_1694 rfl ?_
        refine mw_iconst (v := 1) dL_law_1695 (by decide) ?_
        refine mw_iadd dL_law_1696 ?_
        obtain ⟨x810, e811, hf⟩ := ob hf
        refine ml_iald dL_law_1697 e811 ?_
        obtain ⟨g814, e815, hf⟩ := ob hf
        obtain ⟨x816, h812, e813, hf⟩ := ob1 hf
        refine ml_callV (ci := 7) (mc := 28 * n + 28) (ms := 10859 * n + 10859) (mc' := 0) (ms' := 0) [vi x810] dL_law_1698 mk_X8_about lk_RL_135 im_X8_about se_X8_about (by decide) e815 rfl (Nat.le_of_ble_eq_true rfl) (Nat.le_of_ble_eq_true rfl) (t_X8_about E _ e813 isR_rfl) ?_
        refine mw_aload_n (x := q2) dL_law_1701 rfl ?_
        refine mw_aload_n (x := q0) dL_law_1702 rfl ?_
        refine mw_iload_n (x := v3) dL_law_1703 rfl ?_
        refine mw_iconst (v := 1) dL_law_1704 (by decide) ?_
        refine mw_iadd dL_law_1705 ?_
        obtain ⟨x817, e818, hf⟩ := ob hf
        refine ml_iald dL_law_1706 e818 ?_
        obtain ⟨g821, e822, hf⟩ := ob hf
        obtain ⟨x823, h819, e820, hf⟩ := ob1 hf
        refine ml_callV (ci := 8) (mc := 28 * n + 28) (ms := 10859 * n + 10859) (mc' := 0) (ms' := 0) [vi x817] dL_law_1707 mk_X9_about lk_RL_138 im_X9_about se_X9_about (by decide) e822 rfl (Nat.le_of_ble_eq_true rfl) (Nat.le_of_ble_eq_true rfl) (t_X9_about E _ e820 isR_rfl) ?_
        refine mw_icmp_eq (tgt := 1715) dL_law_1710 rfl (fun c824 => ?_) (fun c824 => ?_)
        · rw [if_pos c824] at hf
          refine mw_iinc (x := v3) (v := v3 + 6) dL_law_1715 rfl rfl (by decide) rfl ?_
          refine mw_goto (tgt := 18) dL_law_1718 rfl ?_
          exact MW.sub (subL_s (subL_s (subL_s (subL_s subL_nil)))) (MW.more (Nat.le_refl _) (by omega) (by omega) (ih _ _ _ _ _ _ hf hX1721))
        · rw [if_neg c824] at hf
          cases hf
      rw [if_neg c825] at hf
      cases hf
set_option maxHeartbeats 4000000 in
theorem t_L_law (E : En) (d : Nat) {q0 : Option Nat} {h h' : Hp} {r : Int32} {K : Option Vv → Hp → Prop} (hf : f_L_law q0 h = some (r, h')) (hk : K (some (vi r)) h') : MC E m_L_law (d + 206) 14444 5592077 [vq q0] h K := by
  unfold f_L_law at hf
  show MW E m_L_law (d + 206) 14444 5592077 0 [some (vq q0), none, none, none] [] h K
  refine mw_new (ci := 7) (mc := 14443) (ms := 5592064) dL_law_0 (by decide) cl_RL_7 it_7 in_7 ?_
  refine mw_dupq dL_law_3 ?_
  obtain ⟨g3, e4, hf⟩ := ob hf
  obtain ⟨h1, e2, hf⟩ := ob hf
  refine ml_callI (mc := 14407) (ms := 5586556) (mc' := 36) (ms' := 5508) [] dL_law_4 mk_X8_init rfl lk_RL_9 im_X8_init rfl e4 rfl (Nat.le_of_ble_eq_true rfl) (Nat.le_of_ble_eq_true rfl) (t_X8_init E _ e2 isR_rfl) ?_
  refine mw_astore_n dL_law_7 (by decide) rfl ?_
  refine mw_new (ci := 8) (mc := 14406) (ms := 5586485) dL_law_8 (by decide) cl_RL_10 it_8 in_8 ?_
  refine mw_dupq dL_law_11 ?_
  obtain ⟨g7, e8, hf⟩ := ob hf
  obtain ⟨h5, e6, hf⟩ := ob hf
  refine ml_callI (mc := 14364) (ms := 5570667) (mc' := 42) (ms' := 15818) [] dL_law_12 mk_X9_init rfl lk_RL_12 im_X9_init rfl e8 rfl (Nat.le_of_ble_eq_true rfl) (Nat.le_of_ble_eq_true rfl) (t_X9_init E _ e6 isR_rfl) ?_
  refine mw_astore_n dL_law_15 (by decide) rfl ?_
  refine mw_iconst (v := 0) dL_law_16 (by decide) ?_
  refine mw_istore_n dL_law_17 (by decide) rfl ?_
  obtain ⟨h826, e827, hf⟩ := ob hf
  refine MW.sub (subL_s (subL_s (subL_s (subL_s subL_nil)))) (tl_L_law_18 E d _ _ _ _ _ _ _ e827 ?_)
  refine mw_iconst (v := 1) dL_law_1721 (by decide) ?_
  obtain ⟨rfl, rfl⟩ := y1 hf
  exact mw_ireturn dL_law_1722 rfl rfl hk
