section ST16
end ST16
