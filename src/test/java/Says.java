import java.lang.annotation.Retention;
import java.lang.annotation.RetentionPolicy;

/** The document's own words that a test holds; DocumentTest looks them up there. */
@Retention(RetentionPolicy.RUNTIME)
@interface Says {
    String[] value();
}
