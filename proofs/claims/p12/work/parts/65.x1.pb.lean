section PBND
end PBND
