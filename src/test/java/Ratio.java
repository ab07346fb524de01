import java.math.BigInteger;

/** An exact fraction without any limit, for the model. */
record Ratio(BigInteger above, BigInteger below) {
    static final Ratio ZERO = of(0);
    static final Ratio ONE = of(1);

    Ratio {
        BigInteger shared = above.gcd(below);
        if (below.signum() < 0) {
            shared = shared.negate();
        }
        above = above.divide(shared);
        below = below.divide(shared);
    }

    static Ratio of(long whole) {
        return new Ratio(BigInteger.valueOf(whole), BigInteger.ONE);
    }

    static Ratio of(long above, long below) {
        return new Ratio(BigInteger.valueOf(above), BigInteger.valueOf(below));
    }

    Ratio plus(Ratio other) {
        BigInteger sum = above.multiply(other.below).add(other.above.multiply(below));
        return new Ratio(sum, below.multiply(other.below));
    }

    Ratio less(Ratio other) {
        return plus(new Ratio(other.above.negate(), other.below));
    }

    Ratio times(Ratio other) {
        return new Ratio(above.multiply(other.above), below.multiply(other.below));
    }

    Ratio by(Ratio other) {
        return new Ratio(above.multiply(other.below), below.multiply(other.above));
    }

    Ratio size() {
        return new Ratio(above.abs(), below);
    }

    int compare(Ratio other) {
        return above.multiply(other.below).compareTo(other.above.multiply(below));
    }

    boolean isWithin(long least, long most) {
        return compare(of(least)) >= 0 && compare(of(most)) <= 0;
    }

    boolean isZero() {
        return above.signum() == 0;
    }

    long floor() {
        BigInteger[] parts = above.divideAndRemainder(below);
        return parts[0].longValueExact() - (parts[1].signum() < 0 ? 1 : 0);
    }

    long part(int part) {
        return (part == 0 ? above : below).longValueExact();
    }
}
