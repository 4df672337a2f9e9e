noncomputable def R_globs_157 : RT := (setR (setR R0 1 73786976294838206464) 2 615155970067894714871900634719635416561676437078232837128289)
theorem kL_globs : eqO (hL_globs) R_globs_157 = true := by decide +kernel
noncomputable def R_globs_310 : RT := (setR (setR R_globs_157 1 0) 2 89711455508678223465454179407088469021398595090907482463527660846791571909468183402873852809707562)
theorem kL_globs_157 : eqO (hL_globs_157 R_globs_157) R_globs_310 = true := by decide +kernel
noncomputable def R_globs_452 : RT := (setR (setR (setR (setR (setR (setR (setR (setR (setR (setR R_globs_310 1 18446744073709551616) 2 89711455508678223472170120582852808355965712221411381119036716052313218116173213290752739639296101) 3 810544624661213367983828200266975397264397260929106947524510154388784011018240) 5 1361129467683753853908838661948201500673) 7 55340232221128654848) 8 33347671958251969420277708499777633648737) 9 92233720368547758080) 10 11579208923731619542652122282431964781260968523779989633386310189788331987959905) 11 18446744073709551616) 12 101)
theorem kL_globs_310 : eqO (hL_globs_310 R_globs_310) R_globs_452 = true := by decide +kernel
noncomputable def R_globs_810 : RT := (setR (setR R_globs_452 1 55340232221128654848) 2 3821994601050264483691458280402213312970163997173084556385365192405848824744673119245970458930126676963085204106248289)
theorem kL_globs_452 : eqO (hL_globs_452 R_globs_452) R_globs_810 = true := by decide +kernel
noncomputable def R_globs_925 : RT := (setR (setR (setR R_globs_810 1 18446744073709551616) 2 3821994601050264483691458280402213312970163997173084556385365192405848824744673119245970458930126676963085204106248293) 5 1701411834604692317372213269379969712129)
theorem kL_globs_810 : eqO (hL_globs_810 R_globs_810) R_globs_925 = true := by decide +kernel
theorem kkL_globs_925 : eqN (gL_globs_925 R_globs_925) 1 = true := by decide +kernel
theorem pure_globs : fL_globs = some (1 : Int32) := by
  obtain ⟨C0, h0, e0⟩ := ev_step (tL_globs (x := 0) (by decide)) kL_globs
  obtain ⟨C1, h1, e1⟩ := ev_step (tL_globs_157 (x := 0) (by decide) h0) kL_globs_157
  obtain ⟨C2, h2, e2⟩ := ev_step (tL_globs_310 (x := 0) (by decide) h1) kL_globs_310
  obtain ⟨C3, h3, e3⟩ := ev_step (tL_globs_452 (x := 0) (by decide) h2) kL_globs_452
  obtain ⟨C4, h4, e4⟩ := ev_step (tL_globs_810 (x := 0) (by decide) h3) kL_globs_810
  rw [e0]
  rw [e1]
  rw [e2]
  rw [e3]
  rw [e4]
  exact ev_fin (sL_globs_925 (x := 0) (by decide) h4) kkL_globs_925
