theorem zw_multi : True := by
  have h := @Jvm.Stand.multianewarray2F
  trivial
