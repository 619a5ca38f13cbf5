theorem va_wide : True := by
  have _h := @Jvm.Free.Multi.fill_facts
  trivial
