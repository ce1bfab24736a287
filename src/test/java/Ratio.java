import java.math.BigInteger;

/** A fraction without bounds, for the oracle. */
final class Ratio implements Comparable<Ratio> {
    static final Ratio ZERO = of(0);
    static final Ratio ONE = of(1);

    final BigInteger top;
    final BigInteger bottom;

    private Ratio(BigInteger top, BigInteger bottom) {
        BigInteger shared = top.gcd(bottom);
        if (bottom.signum() < 0) {
            shared = shared.negate();
        }
        this.top = top.divide(shared);
        this.bottom = bottom.divide(shared);
    }

    static Ratio of(long value) {
        return new Ratio(BigInteger.valueOf(value), BigInteger.ONE);
    }

    Ratio plus(Ratio other) {
        return new Ratio(top.multiply(other.bottom).add(other.top.multiply(bottom)), bottom.multiply(other.bottom));
    }

    Ratio minus(Ratio other) {
        return plus(other.times(of(-1)));
    }

    Ratio times(Ratio other) {
        return new Ratio(top.multiply(other.top), bottom.multiply(other.bottom));
    }

    Ratio times(long other) {
        return times(of(other));
    }

    Ratio over(Ratio other) {
        return new Ratio(top.multiply(other.bottom), bottom.multiply(other.top));
    }

    Ratio abs() {
        return top.signum() < 0 ? times(-1) : this;
    }

    int sign() {
        return top.signum();
    }

    long part(int part) {
        return (part == 0 ? top : bottom).longValueExact();
    }

    @Override
    public int compareTo(Ratio other) {
        return minus(other).sign();
    }

    @Override
    public boolean equals(Object other) {
        return other instanceof Ratio ratio && compareTo(ratio) == 0;
    }

    @Override
    public int hashCode() {
        return top.hashCode() * 31 + bottom.hashCode();
    }

    @Override
    public String toString() {
        return top + "/" + bottom;
    }
}
