theorem zz_look : True := by
  have h := @law_loop
  have h2 := @law_slot
  done
