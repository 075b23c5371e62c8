theorem ck_301 : okM 301 cod_301 = true := by sorry
