theorem wd_0 : True := (fun _ => trivial) (@Stand.arrayOver_alikeB)
