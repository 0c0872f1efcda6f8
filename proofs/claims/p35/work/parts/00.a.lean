-- the wide library is named here, so that no part is read twice
theorem hzz_wide : True := by
  have _h := @Jvm.Stand.arrayOver_alikeB
  trivial
