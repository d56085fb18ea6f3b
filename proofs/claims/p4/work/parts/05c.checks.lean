theorem am_k239 : am_mchk 239 = true := am_mf_ok (by decide +kernel)
