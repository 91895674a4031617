theorem wd_0 : Jvm.Free.Multi.outerC = Jvm.Free.Multi.outerC := rfl
