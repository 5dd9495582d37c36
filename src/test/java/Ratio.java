import java.math.BigInteger;

/** An exact fraction in lowest terms, the lower number above 0. */
final class Ratio implements Comparable<Ratio> {
    static final Ratio ZERO = of(0, 1);

    final BigInteger upper;
    final BigInteger lower;

    private Ratio(BigInteger upper, BigInteger lower) {
        BigInteger common = upper.gcd(lower).multiply(BigInteger.valueOf(lower.signum()));
        this.upper = upper.divide(common);
        this.lower = lower.divide(common);
    }

    static Ratio of(long upper, long lower) {
        return new Ratio(BigInteger.valueOf(upper), BigInteger.valueOf(lower));
    }

    static Ratio of(long whole) {
        return of(whole, 1);
    }

    Ratio plus(Ratio o) {
        return new Ratio(upper.multiply(o.lower).add(o.upper.multiply(lower)), lower.multiply(o.lower));
    }

    Ratio minus(Ratio o) {
        return plus(o.times(of(-1)));
    }

    Ratio times(Ratio o) {
        return new Ratio(upper.multiply(o.upper), lower.multiply(o.lower));
    }

    Ratio by(Ratio o) {
        return new Ratio(upper.multiply(o.lower), lower.multiply(o.upper));
    }

    @Override
    public int compareTo(Ratio o) {
        return upper.multiply(o.lower).compareTo(o.upper.multiply(lower));
    }
}
