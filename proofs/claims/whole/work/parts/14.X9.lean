theorem kX9_kindOfA_1 : am_CS mX9_kindOfA mX9_isNumber 9 1 := am_CS.of "" 435 0 436 104 437 (by decide +kernel)
theorem kX9_kindOfB_1 : am_CS mX9_kindOfB mX9_isNumber 9 1 := am_CS.of "" 435 0 436 104 437 (by decide +kernel)
theorem kX9_kindOfC_1 : am_CS mX9_kindOfC mX9_isNumber 9 1 := am_CS.of "" 435 0 436 104 437 (by decide +kernel)
