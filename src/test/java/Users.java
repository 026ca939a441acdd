/** The BUCKETS of the USERS, reckoned from the document's words, so that a test finds its USERS without a call. */
final class Users {
    static final int MANY = 10000;

    private Users() {
    }

    static int bucket(int salt, int user) {
        long h = (salt * 7919L + user * 31L + 17) % 10007;
        long k = (h * h + salt + 3L * user) % 10007;
        return (int) (k % 1000);
    }

    /** The first USER whose BUCKET by the SALT is that one. */
    static int at(int salt, int bucket) {
        return in(salt, bucket, bucket + 1);
    }

    /** The first USER whose BUCKET by the SALT is in the range. */
    static int in(int salt, int from, int to) {
        for (int user = 0; user < MANY; user++) {
            if (bucket(salt, user) >= from && bucket(salt, user) < to) {
                return user;
            }
        }
        throw new AssertionError("no USER with a BUCKET of " + from + " to " + to + " by " + salt);
    }
}
