import java.math.BigInteger;

/**
 * Counts roots by finding them, as the class must not: the polynomial is split into parts whose roots are all
 * simple (exactly, so that the order of a root is sure), and those are found by iteration.
 */
final class Oracle {
    private static final double NEAR = 1e-10;

    private Oracle() {
    }

    /** RIGHT, EVEN, LEFT; null if there is no degree. */
    static int[] roots(int by, long[] parts) {
        BigInteger[] p = trim(big(parts));
        if (p.length == 0) {
            return null;
        }
        int[] found = new int[3];
        // what remains of p by its simple part holds each root once less often
        while (p.length > 1) {
            BigInteger[] less = gcd(p, derivative(p));
            addSimple(by, divide(p, less), found);
            p = less;
        }
        return found;
    }

    static boolean steady(int by, long[] parts) {
        int[] found = roots(by, parts);
        return found != null && found[0] == 0 && found[1] == 0;
    }

    private static void addSimple(int by, BigInteger[] p, int[] found) {
        double[][] at = find(p);
        for (int i = 0; i < p.length - 1; i++) {
            double side = by == 0 ? at[0][i] : Math.hypot(at[0][i], at[1][i]) - 1;
            double size = by == 0 ? Math.max(1, Math.hypot(at[0][i], at[1][i])) : 1;
            found[Math.abs(side) < NEAR * size ? 1 : side > 0 ? 0 : 2]++;
        }
    }

    private static double[][] find(BigInteger[] p) {
        for (int turn = 0; turn < 20; turn++) {
            double[][] at = find(p, 0.7 + 0.31 * turn);
            boolean finite = true;
            for (int i = 0; i < p.length - 1; i++) {
                finite &= Double.isFinite(at[0][i]) && Double.isFinite(at[1][i]);
            }
            if (finite) {
                return at;
            }
        }
        throw new IllegalStateException("no roots found");
    }

    /** All simple roots at once, by Aberth's iteration, which begins around the circle at an angle. */
    private static double[][] find(BigInteger[] p, double angle) {
        int n = p.length - 1;
        double[] c = new double[n + 1];
        double bound = 0;
        for (int k = 0; k <= n; k++) {
            c[k] = p[k].doubleValue() / p[n].doubleValue();
            if (k < n) {
                bound = Math.max(bound, Math.pow(Math.abs(c[k]), 1.0 / (n - k)));
            }
        }
        double[] re = new double[n];
        double[] im = new double[n];
        for (int i = 0; i < n; i++) {
            re[i] = Math.max(bound, 1e-3) * Math.cos(2.4 * i + angle);
            im[i] = Math.max(bound, 1e-3) * Math.sin(2.4 * i + angle);
        }
        for (int step = 0; step < 300; step++) {
            double moved = 0;
            for (int i = 0; i < n; i++) {
                moved = Math.max(moved, move(c, re, im, i));
            }
            if (moved < 1e-15) {
                break;
            }
        }
        return new double[][] {re, im};
    }

    private static double move(double[] c, double[] re, double[] im, int i) {
        int n = re.length;
        double vr = 0, vi = 0, dr = 0, di = 0;
        for (int k = n; k >= 0; k--) {
            double tr = dr * re[i] - di * im[i] + vr;
            di = dr * im[i] + di * re[i] + vi;
            dr = tr;
            tr = vr * re[i] - vi * im[i] + c[k];
            vi = vr * im[i] + vi * re[i];
            vr = tr;
        }
        if (vr == 0 && vi == 0) {
            return 0;
        }
        // the step is 1 / (p'/p - sum of 1 / distances)
        double v2 = vr * vr + vi * vi;
        double qr = (dr * vr + di * vi) / v2;
        double qi = (di * vr - dr * vi) / v2;
        for (int j = 0; j < n; j++) {
            if (j != i) {
                double xr = re[i] - re[j];
                double xi = im[i] - im[j];
                double x2 = xr * xr + xi * xi;
                qr -= xr / x2;
                qi += xi / x2;
            }
        }
        double q2 = qr * qr + qi * qi;
        re[i] -= qr / q2;
        im[i] += qi / q2;
        return Math.sqrt(1 / q2) / Math.max(1e-3, Math.hypot(re[i], im[i]));
    }

    private static BigInteger[] big(long[] parts) {
        BigInteger[] p = new BigInteger[parts.length];
        for (int k = 0; k < p.length; k++) {
            p[k] = BigInteger.valueOf(parts[k]);
        }
        return p;
    }

    private static BigInteger[] trim(BigInteger[] p) {
        int n = p.length;
        while (n > 0 && p[n - 1].signum() == 0) {
            n--;
        }
        BigInteger common = BigInteger.ZERO;
        for (int k = 0; k < n; k++) {
            common = common.gcd(p[k]);
        }
        BigInteger[] t = new BigInteger[n];
        for (int k = 0; k < n; k++) {
            t[k] = p[k].divide(common);
        }
        return t;
    }

    private static BigInteger[] derivative(BigInteger[] p) {
        BigInteger[] d = new BigInteger[p.length - 1];
        for (int k = 1; k < p.length; k++) {
            d[k - 1] = p[k].multiply(BigInteger.valueOf(k));
        }
        return trim(d);
    }

    private static BigInteger[] gcd(BigInteger[] a, BigInteger[] b) {
        while (b.length > 0) {
            BigInteger[] rest = rest(a, b, null);
            a = b;
            b = rest;
        }
        return a;
    }

    /** The quotient but for a number. */
    private static BigInteger[] divide(BigInteger[] a, BigInteger[] b) {
        BigInteger[] quotient = new BigInteger[a.length - b.length + 1];
        java.util.Arrays.fill(quotient, BigInteger.ZERO);
        rest(a, b, quotient);
        return trim(quotient);
    }

    private static BigInteger[] rest(BigInteger[] a, BigInteger[] b, BigInteger[] quotient) {
        BigInteger[] r = a.clone();
        BigInteger lead = b[b.length - 1];
        for (int k = a.length - 1; k >= b.length - 1; k--) {
            BigInteger times = r[k];
            for (int j = 0; j < r.length; j++) {
                r[j] = r[j].multiply(lead);
            }
            for (int j = 0; j < b.length; j++) {
                r[k - b.length + 1 + j] = r[k - b.length + 1 + j].subtract(times.multiply(b[j]));
            }
            if (quotient != null) {
                for (int j = 0; j < quotient.length; j++) {
                    quotient[j] = quotient[j].multiply(lead);
                }
                quotient[k - b.length + 1] = times;
            }
        }
        return trim(r);
    }
}
