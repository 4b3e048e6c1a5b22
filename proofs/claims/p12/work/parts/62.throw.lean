section THROW
end THROW
