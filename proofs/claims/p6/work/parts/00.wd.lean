theorem wd_1 : True := by
  have := @Jvm.Example.ConBool.kern
  trivial
theorem wd_2 : True := by
  have := @Jvm.Example.ConBool.facts
  trivial
theorem wd_3 : True := by
  have := @Jvm.Example.ConBool.n14
  trivial
theorem wd_4 : True := by
  have := @Jvm.Example.ConBool.n18
  trivial
theorem wd_5 : True := by
  have := @Jvm.Example.ConBool.K
  trivial
